/-! objects that come and go: commands, the list, the ring of states -/
abbrev CV : Type := Nat × (Nat → Int32) × Int32
def cVerb (cv : CV) : Nat := cv.1
def cNumbers (cv : CV) : Nat → Int32 := cv.2.1
def cCount (cv : CV) : Int32 := cv.2.2
def cSNumbers (x : Nat → Int32) (cv : CV) : CV := (cv.1, x, cv.2.2)
def cSCount (x : Int32) (cv : CV) : CV := (cv.1, cv.2.1, x)
def wC (g : GG) (hc : Nat → Nat) (cv : CV) : va_W := [(hc 0, .inr (3, [.ref (gS g 1 (cVerb cv)), .ref (hc 1), .int (cCount cv)])), (hc 1, .inl (gC g 0, 4, .inl (cNumbers cv)))]
def wPool (g : GG) : (Nat → Nat → Nat) → List QV → va_W
  | _, [] => []
  | h, q :: L => wQ g (h 0) q ++ wPool g (fun i => h (i + 1)) L
abbrev HV : Type := List QV × Int32 × Int32
def wH (g : GG) (hh : Nat → Nat) (hd : Nat → Nat → Nat) (hv : HV) : va_W := [(hh 0, .inr (4, [.ref (hh 1), .int hv.2.1, .int hv.2.2])), (hh 1, .inl (gC g 5, 8, .inr (.inr (.inr (.inr (fun k => (hv.1[k]?).map fun _ => hd k 0))))))] ++ wPool g hd hv.1
abbrev PV : Type := (Nat → Int32) × Int32
def pText (pv : PV) : Nat → Int32 := pv.1
def pLength (pv : PV) : Int32 := pv.2
def pSText (x : Nat → Int32) (pv : PV) : PV := (x, pv.2)
def pSLength (x : Int32) (pv : PV) : PV := (pv.1, x)
def wP (g : GG) (hp : Nat → Nat) (pv : PV) : va_W := [(hp 0, .inr (6, [.ref (hp 1), .ref (hp 2), .int (pLength pv)])), (hp 1, .inl (gC g 2, 60, .inl (pText pv)))]
/-- the list: how often it changed, how many it holds, its own row of places if it has one -/
abbrev ListS : Type := Int32 × Int32 × Option (Nat × (Nat → Option Nat))
def lsE (g : GG) (ls : ListS) : Nat := match ls.2.2 with | none => gS g 4 3 | some e => e.1
def lsW (g : GG) (ls : ListS) : va_W := match ls.2.2 with | none => [] | some e => [(e.1, .inl (gC g 6, 10, .inr (.inr (.inr (.inr e.2)))))]
def wL (g : GG) (hl : Nat) (ls : ListS) : va_W := [(hl, .inr (2, [.int ls.1, .ref (lsE g ls), .int ls.2.1]))] ++ lsW g ls
def qZero : QV := (fun _ => 0, fun _ => 0, fun _ => 0, fun _ => 0, fun _ => 0, fun _ => 0, fun _ => 0, fun _ => 0, fun _ => 0, 0, 0, 0, 0, 0, 0)
def sZero : SV := (fun _ => 0, fun _ => 0, fun _ => 0, fun _ => 0, fun _ => 0)
def mZero : MV := (fun _ => 0, fun _ => 0, fun _ => 0, fun _ => 0, 0, 0, -1, -1, fun _ => 0, fun _ => 0, 0, fun _ => 0, 0, 0, 0, 0, 0, 0, fun _ => 0)
def at2 (a b : Nat) : Nat → Nat := fun k => match k with | 0 => a | _ => b
def at3 (a b c : Nat) : Nat → Nat := fun k => match k with | 0 => a | 1 => b | _ => c
def rm_X8_init : Room := { frames := 1, cells := 5, slots := 391, locals := 12 }
theorem hd_X8_init : yX8_init.cls ≠ "java/lang/invoke/MethodHandle" ∧ yX8_init.cls ≠ "java/lang/invoke/VarHandle" ∧ (parseMethodDescriptor yX8_init.desc).map (fun d => d.parameters.length) = some 0 := by decide +kernel
set_option maxHeartbeats 4000000 in
set_option maxRecDepth 100000 in
theorem c_X8_init (l : Launch) (g : GG) (h0 : Nat) : MzV (RT := Nat → Nat) l yX8_init wsX8_init rm_X8_init g [(h0, .inr (8, [.null, .null, .null, .null, .null]))] [.ref h0] (fun h => h 0 = h0) (fun h => wS g h sZero) 5 391 := by
  refine fun sz => mt_of (cc := cX8_init) (maxL := 1) (ret := none) (own := RX8) (Qc := fun A => va_Qv (fun h : Nat → Nat => h 0 = h0) (fun h t => PosM g A (wS g h sZero) t) A) (by decide +kernel) rfl rfl (Nat.le_of_ble_eq_true rfl) ?_ sz
  intro p e s mi below meth c A ls hB hnm hrt hlk hP hD hl
  obtain ⟨hx, hb, hml, hown, hts, hK, hZ, hT, hA, -⟩ := hB
  have hS : va_S A s.heap s.heap [] := va_S.rf
  have hl : lv_has ls 1 [(0, .ref h0)] := hl
  have hinX8 : ∀ w ∈ wsX80, w ∈ wsX8_init := by decide +kernel
  have kk0 := hts (.methodLink RX8 1 objectInit) (by decide +kernel)
  have kk1 := hts (.instanceMethod objectInit) (by decide +kernel)
  have kk2 := hts (.code objectInit ⟨#[0xb1]⟩ 1 none) (by decide +kernel)
  have kk3 := hts (.arrayClass .int) (by decide +kernel)
  have kk4 := hts (.fieldLink RX8 11 "TerraceQuarry$Survey" "queue" "[I") (by decide +kernel)
  have kk5 := hts (.fieldLink RX8 17 "TerraceQuarry$Survey" "lowered" "[I") (by decide +kernel)
  have kk6 := hts (.fieldLink RX8 20 "TerraceQuarry$Survey" "labels" "[I") (by decide +kernel)
  have kk7 := hts (.fieldLink RX8 23 "TerraceQuarry$Survey" "lengths" "[I") (by decide +kernel)
  have kk8 := hts (.arrayClass .boolean) (by decide +kernel)
  have kk9 := hts (.fieldLink RX8 26 "TerraceQuarry$Survey" "marked" "[Z") (by decide +kernel)
  refine lv_aload_n hx hb dX8_init_0 rfl (lv_at hl 0 rfl) ?_
  refine W.objInit hx hb hown kk0 kk1 kk2 rfl (by rw [hml]; exact hl.1) rfl dX8_init_1 (Nat.le_of_ble_eq_true rfl) (Nat.le_of_ble_eq_true rfl) ?_
  refine W.eq (g2 := F0 mi 4 ls []) rfl ?_
  refine lv_aload_n hx hb dX8_init_4 rfl (lv_at hl 0 rfl) ?_
  refine lv_sipush (v := 271) hx hb dX8_init_5 (by decide) ?_
  refine va_newa (atype := .int) (a0 := (271, .inl (fun _ => 0))) hx hb kk3 rfl hK hP hD hS hA (fun _ => rfl) (by decide) (show (271 : Int32).toNatClampNeg = 271 from by decide) (by decide) (Nat.le_of_ble_eq_true rfl) (Nat.le_of_ble_eq_true rfl) dX8_init_8 (fun q1 cAq1 H hK9 hP hD hS => ?_)
  have ecAq1 := ar_id hK9 0 rfl
  rw [ecAq1] at hP hD
  have hP : va_P (gD g) vwCl [(h0, .inr (8, [.null, .null, .null, .null, .null])), (q1, .inl (gC g 0, 271, .inl (fun _ => 0)))] H := hP
  have hD : va_D A [(h0, .inr (8, [.null, .null, .null, .null, .null])), (q1, .inl (gC g 0, 271, .inl (fun _ => 0)))] := hD
  refine va_putF (D := gD g) (ci := 8) (v := .ref q1) (ty := .array .int) (C := RX8) (T := TX8) (N := 5) hx hb hts hinX8 tyX8 tyX8_ok nmX8 hown hK hP hD hS 0 rfl rfl 0 (by decide) kk4 (fun _ h9 => h9) rfl hnm rfl (tyX8_ok 0 (by decide)) rfl rfl (Nat.le_of_ble_eq_true rfl) dX8_init_10 (fun H locs hP hD hS => ?_)
  have hP : va_P (gD g) vwCl [(h0, .inr (8, [.ref q1, .null, .null, .null, .null])), (q1, .inl (gC g 0, 271, .inl (fun _ => 0)))] H := hP
  have hD : va_D A [(h0, .inr (8, [.ref q1, .null, .null, .null, .null])), (q1, .inl (gC g 0, 271, .inl (fun _ => 0)))] := hD
  refine lv_aload_n hx hb dX8_init_13 rfl (lv_at hl 0 rfl) ?_
  refine lv_bipush (v := 30) hx hb dX8_init_14 (by decide) ?_
  refine va_newa (atype := .int) (a0 := (30, .inl (fun _ => 0))) hx hb kk3 rfl hK hP hD hS hA (fun _ => rfl) (by decide) (show (30 : Int32).toNatClampNeg = 30 from by decide) (by decide) (Nat.le_of_ble_eq_true rfl) (Nat.le_of_ble_eq_true rfl) dX8_init_16 (fun q2 cAq2 H hK9 hP hD hS => ?_)
  have ecAq2 := ar_id hK9 0 rfl
  rw [ecAq2] at hP hD
  have hP : va_P (gD g) vwCl [(h0, .inr (8, [.ref q1, .null, .null, .null, .null])), (q1, .inl (gC g 0, 271, .inl (fun _ => 0))), (q2, .inl (gC g 0, 30, .inl (fun _ => 0)))] H := hP
  have hD : va_D A [(h0, .inr (8, [.ref q1, .null, .null, .null, .null])), (q1, .inl (gC g 0, 271, .inl (fun _ => 0))), (q2, .inl (gC g 0, 30, .inl (fun _ => 0)))] := hD
  refine va_putF (D := gD g) (ci := 8) (v := .ref q2) (ty := .array .int) (C := RX8) (T := TX8) (N := 5) hx hb hts hinX8 tyX8 tyX8_ok nmX8 hown hK hP hD hS 0 rfl rfl 1 (by decide) kk5 (fun _ h9 => h9) rfl hnm rfl (tyX8_ok 1 (by decide)) rfl rfl (Nat.le_of_ble_eq_true rfl) dX8_init_18 (fun H locs hP hD hS => ?_)
  have hP : va_P (gD g) vwCl [(h0, .inr (8, [.ref q1, .ref q2, .null, .null, .null])), (q1, .inl (gC g 0, 271, .inl (fun _ => 0))), (q2, .inl (gC g 0, 30, .inl (fun _ => 0)))] H := hP
  have hD : va_D A [(h0, .inr (8, [.ref q1, .ref q2, .null, .null, .null])), (q1, .inl (gC g 0, 271, .inl (fun _ => 0))), (q2, .inl (gC g 0, 30, .inl (fun _ => 0)))] := hD
  refine lv_aload_n hx hb dX8_init_21 rfl (lv_at hl 0 rfl) ?_
  refine lv_bipush (v := 30) hx hb dX8_init_22 (by decide) ?_
  refine va_newa (atype := .int) (a0 := (30, .inl (fun _ => 0))) hx hb kk3 rfl hK hP hD hS hA (fun _ => rfl) (by decide) (show (30 : Int32).toNatClampNeg = 30 from by decide) (by decide) (Nat.le_of_ble_eq_true rfl) (Nat.le_of_ble_eq_true rfl) dX8_init_24 (fun q3 cAq3 H hK9 hP hD hS => ?_)
  have ecAq3 := ar_id hK9 0 rfl
  rw [ecAq3] at hP hD
  have hP : va_P (gD g) vwCl [(h0, .inr (8, [.ref q1, .ref q2, .null, .null, .null])), (q1, .inl (gC g 0, 271, .inl (fun _ => 0))), (q2, .inl (gC g 0, 30, .inl (fun _ => 0))), (q3, .inl (gC g 0, 30, .inl (fun _ => 0)))] H := hP
  have hD : va_D A [(h0, .inr (8, [.ref q1, .ref q2, .null, .null, .null])), (q1, .inl (gC g 0, 271, .inl (fun _ => 0))), (q2, .inl (gC g 0, 30, .inl (fun _ => 0))), (q3, .inl (gC g 0, 30, .inl (fun _ => 0)))] := hD
  refine va_putF (D := gD g) (ci := 8) (v := .ref q3) (ty := .array .int) (C := RX8) (T := TX8) (N := 5) hx hb hts hinX8 tyX8 tyX8_ok nmX8 hown hK hP hD hS 0 rfl rfl 2 (by decide) kk6 (fun _ h9 => h9) rfl hnm rfl (tyX8_ok 2 (by decide)) rfl rfl (Nat.le_of_ble_eq_true rfl) dX8_init_26 (fun H locs hP hD hS => ?_)
  have hP : va_P (gD g) vwCl [(h0, .inr (8, [.ref q1, .ref q2, .ref q3, .null, .null])), (q1, .inl (gC g 0, 271, .inl (fun _ => 0))), (q2, .inl (gC g 0, 30, .inl (fun _ => 0))), (q3, .inl (gC g 0, 30, .inl (fun _ => 0)))] H := hP
  have hD : va_D A [(h0, .inr (8, [.ref q1, .ref q2, .ref q3, .null, .null])), (q1, .inl (gC g 0, 271, .inl (fun _ => 0))), (q2, .inl (gC g 0, 30, .inl (fun _ => 0))), (q3, .inl (gC g 0, 30, .inl (fun _ => 0)))] := hD
  refine lv_aload_n hx hb dX8_init_29 rfl (lv_at hl 0 rfl) ?_
  refine lv_bipush (v := 30) hx hb dX8_init_30 (by decide) ?_
  refine va_newa (atype := .int) (a0 := (30, .inl (fun _ => 0))) hx hb kk3 rfl hK hP hD hS hA (fun _ => rfl) (by decide) (show (30 : Int32).toNatClampNeg = 30 from by decide) (by decide) (Nat.le_of_ble_eq_true rfl) (Nat.le_of_ble_eq_true rfl) dX8_init_32 (fun q4 cAq4 H hK9 hP hD hS => ?_)
  have ecAq4 := ar_id hK9 0 rfl
  rw [ecAq4] at hP hD
  have hP : va_P (gD g) vwCl [(h0, .inr (8, [.ref q1, .ref q2, .ref q3, .null, .null])), (q1, .inl (gC g 0, 271, .inl (fun _ => 0))), (q2, .inl (gC g 0, 30, .inl (fun _ => 0))), (q3, .inl (gC g 0, 30, .inl (fun _ => 0))), (q4, .inl (gC g 0, 30, .inl (fun _ => 0)))] H := hP
  have hD : va_D A [(h0, .inr (8, [.ref q1, .ref q2, .ref q3, .null, .null])), (q1, .inl (gC g 0, 271, .inl (fun _ => 0))), (q2, .inl (gC g 0, 30, .inl (fun _ => 0))), (q3, .inl (gC g 0, 30, .inl (fun _ => 0))), (q4, .inl (gC g 0, 30, .inl (fun _ => 0)))] := hD
  refine va_putF (D := gD g) (ci := 8) (v := .ref q4) (ty := .array .int) (C := RX8) (T := TX8) (N := 5) hx hb hts hinX8 tyX8 tyX8_ok nmX8 hown hK hP hD hS 0 rfl rfl 3 (by decide) kk7 (fun _ h9 => h9) rfl hnm rfl (tyX8_ok 3 (by decide)) rfl rfl (Nat.le_of_ble_eq_true rfl) dX8_init_34 (fun H locs hP hD hS => ?_)
  have hP : va_P (gD g) vwCl [(h0, .inr (8, [.ref q1, .ref q2, .ref q3, .ref q4, .null])), (q1, .inl (gC g 0, 271, .inl (fun _ => 0))), (q2, .inl (gC g 0, 30, .inl (fun _ => 0))), (q3, .inl (gC g 0, 30, .inl (fun _ => 0))), (q4, .inl (gC g 0, 30, .inl (fun _ => 0)))] H := hP
  have hD : va_D A [(h0, .inr (8, [.ref q1, .ref q2, .ref q3, .ref q4, .null])), (q1, .inl (gC g 0, 271, .inl (fun _ => 0))), (q2, .inl (gC g 0, 30, .inl (fun _ => 0))), (q3, .inl (gC g 0, 30, .inl (fun _ => 0))), (q4, .inl (gC g 0, 30, .inl (fun _ => 0)))] := hD
  refine lv_aload_n hx hb dX8_init_37 rfl (lv_at hl 0 rfl) ?_
  refine lv_bipush (v := 30) hx hb dX8_init_38 (by decide) ?_
  refine va_newa (atype := .boolean) (a0 := (30, .inl (fun _ => 0))) hx hb kk8 rfl hK hP hD hS hA (fun _ => rfl) (by decide) (show (30 : Int32).toNatClampNeg = 30 from by decide) (by decide) (Nat.le_of_ble_eq_true rfl) (Nat.le_of_ble_eq_true rfl) dX8_init_40 (fun q5 cAq5 H hK9 hP hD hS => ?_)
  have ecAq5 := ar_id hK9 1 rfl
  rw [ecAq5] at hP hD
  have hP : va_P (gD g) vwCl [(h0, .inr (8, [.ref q1, .ref q2, .ref q3, .ref q4, .null])), (q1, .inl (gC g 0, 271, .inl (fun _ => 0))), (q2, .inl (gC g 0, 30, .inl (fun _ => 0))), (q3, .inl (gC g 0, 30, .inl (fun _ => 0))), (q4, .inl (gC g 0, 30, .inl (fun _ => 0))), (q5, .inl (gC g 1, 30, .inl (fun _ => 0)))] H := hP
  have hD : va_D A [(h0, .inr (8, [.ref q1, .ref q2, .ref q3, .ref q4, .null])), (q1, .inl (gC g 0, 271, .inl (fun _ => 0))), (q2, .inl (gC g 0, 30, .inl (fun _ => 0))), (q3, .inl (gC g 0, 30, .inl (fun _ => 0))), (q4, .inl (gC g 0, 30, .inl (fun _ => 0))), (q5, .inl (gC g 1, 30, .inl (fun _ => 0)))] := hD
  refine va_putF (D := gD g) (ci := 8) (v := .ref q5) (ty := .array .boolean) (C := RX8) (T := TX8) (N := 5) hx hb hts hinX8 tyX8 tyX8_ok nmX8 hown hK hP hD hS 0 rfl rfl 4 (by decide) kk9 (fun _ h9 => h9) rfl hnm rfl (tyX8_ok 4 (by decide)) rfl rfl (Nat.le_of_ble_eq_true rfl) dX8_init_42 (fun H locs hP hD hS => ?_)
  have hP : va_P (gD g) vwCl [(h0, .inr (8, [.ref q1, .ref q2, .ref q3, .ref q4, .ref q5])), (q1, .inl (gC g 0, 271, .inl (fun _ => 0))), (q2, .inl (gC g 0, 30, .inl (fun _ => 0))), (q3, .inl (gC g 0, 30, .inl (fun _ => 0))), (q4, .inl (gC g 0, 30, .inl (fun _ => 0))), (q5, .inl (gC g 1, 30, .inl (fun _ => 0)))] H := hP
  have hD : va_D A [(h0, .inr (8, [.ref q1, .ref q2, .ref q3, .ref q4, .ref q5])), (q1, .inl (gC g 0, 271, .inl (fun _ => 0))), (q2, .inl (gC g 0, 30, .inl (fun _ => 0))), (q3, .inl (gC g 0, 30, .inl (fun _ => 0))), (q4, .inl (gC g 0, 30, .inl (fun _ => 0))), (q5, .inl (gC g 1, 30, .inl (fun _ => 0)))] := hD
  exact rz_v (RT := Nat → Nat) (PR := fun h => h 0 = h0) (W1 := fun h => wS g h sZero) (fun k => match k with | 0 => h0 | 1 => q1 | 2 => q2 | 3 => q3 | 4 => q4 | _ => q5) rfl hx hb hrt hlk hK hP hD hS (Nat.le_of_ble_eq_true rfl) (Nat.le_of_ble_eq_true rfl) dX8_init_45
def rm_X5_init : Room := { frames := 1, cells := 1, slots := 48, locals := 12 }
theorem hd_X5_init : yX5_init.cls ≠ "java/lang/invoke/MethodHandle" ∧ yX5_init.cls ≠ "java/lang/invoke/VarHandle" ∧ (parseMethodDescriptor yX5_init.desc).map (fun d => d.parameters.length) = some 0 := by decide +kernel
set_option maxHeartbeats 4000000 in
set_option maxRecDepth 100000 in
theorem c_X5_init (l : Launch) (g : GG) (h0 : Nat) : MzV (RT := Nat → Nat) l yX5_init wsX5_init rm_X5_init g [(h0, .inr (5, [.null, .int 0]))] [.ref h0] (fun h => h 0 = h0) (fun h => wO g h (fun _ => 0, 0)) 1 48 := by
  refine fun sz => mt_of (cc := cX5_init) (maxL := 1) (ret := none) (own := RX5) (Qc := fun A => va_Qv (fun h : Nat → Nat => h 0 = h0) (fun h t => PosM g A (wO g h (fun _ => 0, 0)) t) A) (by decide +kernel) rfl rfl (Nat.le_of_ble_eq_true rfl) ?_ sz
  intro p e s mi below meth c A ls hB hnm hrt hlk hP hD hl
  obtain ⟨hx, hb, hml, hown, hts, hK, hZ, hT, hA, -⟩ := hB
  have hS : va_S A s.heap s.heap [] := va_S.rf
  have hl : lv_has ls 1 [(0, .ref h0)] := hl
  have hinX5 : ∀ w ∈ wsX50, w ∈ wsX5_init := by decide +kernel
  have kk0 := hts (.methodLink RX5 3 objectInit) (by decide +kernel)
  have kk1 := hts (.instanceMethod objectInit) (by decide +kernel)
  have kk2 := hts (.code objectInit ⟨#[0xb1]⟩ 1 none) (by decide +kernel)
  have kk3 := hts (.arrayClass .char) (by decide +kernel)
  have kk4 := hts (.fieldLink RX5 13 "TerraceQuarry$OutputLine" "signs" "[C") (by decide +kernel)
  have kk5 := hts (.fieldLink RX5 17 "TerraceQuarry$OutputLine" "length" "I") (by decide +kernel)
  refine lv_aload_n hx hb dX5_init_0 rfl (lv_at hl 0 rfl) ?_
  refine W.objInit hx hb hown kk0 kk1 kk2 rfl (by rw [hml]; exact hl.1) rfl dX5_init_1 (Nat.le_of_ble_eq_true rfl) (Nat.le_of_ble_eq_true rfl) ?_
  refine W.eq (g2 := F0 mi 4 ls []) rfl ?_
  refine lv_aload_n hx hb dX5_init_4 rfl (lv_at hl 0 rfl) ?_
  refine lv_bipush (v := 48) hx hb dX5_init_5 (by decide) ?_
  refine va_newa (atype := .char) (a0 := (48, .inl (fun _ => 0))) hx hb kk3 rfl hK hP hD hS hA (fun _ => rfl) (by decide) (show (48 : Int32).toNatClampNeg = 48 from by decide) (by decide) (Nat.le_of_ble_eq_true rfl) (Nat.le_of_ble_eq_true rfl) dX5_init_7 (fun q1 cAq1 H hK9 hP hD hS => ?_)
  have ecAq1 := ar_id hK9 2 rfl
  rw [ecAq1] at hP hD
  have hP : va_P (gD g) vwCl [(h0, .inr (5, [.null, .int 0])), (q1, .inl (gC g 2, 48, .inl (fun _ => 0)))] H := hP
  have hD : va_D A [(h0, .inr (5, [.null, .int 0])), (q1, .inl (gC g 2, 48, .inl (fun _ => 0)))] := hD
  refine va_putF (D := gD g) (ci := 5) (v := .ref q1) (ty := .array .char) (C := RX5) (T := TX5) (N := 2) hx hb hts hinX5 tyX5 tyX5_ok nmX5 hown hK hP hD hS 0 rfl rfl 0 (by decide) kk4 (fun _ h9 => h9) rfl hnm rfl (tyX5_ok 0 (by decide)) rfl rfl (Nat.le_of_ble_eq_true rfl) dX5_init_9 (fun H locs hP hD hS => ?_)
  have hP : va_P (gD g) vwCl [(h0, .inr (5, [.ref q1, .int 0])), (q1, .inl (gC g 2, 48, .inl (fun _ => 0)))] H := hP
  have hD : va_D A [(h0, .inr (5, [.ref q1, .int 0])), (q1, .inl (gC g 2, 48, .inl (fun _ => 0)))] := hD
  refine lv_aload_n hx hb dX5_init_12 rfl (lv_at hl 0 rfl) ?_
  refine lv_iconst (v := 0) hx hb dX5_init_13 (by decide) ?_
  refine va_put (D := gD g) (ci := 5) (v := .int 0) (ty := .int) (C := RX5) (T := TX5) (N := 2) hx hb hts hinX5 tyX5 tyX5_ok nmX5 hown hK hP hD hS 0 rfl rfl 1 (by decide) kk5 (fun _ h9 => h9) rfl (tyX5_ok 1 (by decide)) rfl rfl (Nat.le_of_ble_eq_true rfl) dX5_init_14 (fun H locs hP hD hS => ?_)
  have hP : va_P (gD g) vwCl [(h0, .inr (5, [.ref q1, .int 0])), (q1, .inl (gC g 2, 48, .inl (fun _ => 0)))] H := hP
  have hD : va_D A [(h0, .inr (5, [.ref q1, .int 0])), (q1, .inl (gC g 2, 48, .inl (fun _ => 0)))] := hD
  exact rz_v (RT := Nat → Nat) (PR := fun h => h 0 = h0) (W1 := fun h => wO g h (fun _ => 0, 0)) (fun k => match k with | 0 => h0 | _ => q1) rfl hx hb hrt hlk hK hP hD hS (Nat.le_of_ble_eq_true rfl) (Nat.le_of_ble_eq_true rfl) dX5_init_17
def rm_X4_init : Room := { frames := 1, cells := 1, slots := 8, locals := 12 }
theorem hd_X4_init : yX4_init.cls ≠ "java/lang/invoke/MethodHandle" ∧ yX4_init.cls ≠ "java/lang/invoke/VarHandle" ∧ (parseMethodDescriptor yX4_init.desc).map (fun d => d.parameters.length) = some 0 := by decide +kernel
set_option maxHeartbeats 4000000 in
set_option maxRecDepth 100000 in
theorem c_X4_init (l : Launch) (g : GG) (h0 : Nat) : MzV (RT := Nat → Nat) l yX4_init wsX4_init rm_X4_init g [(h0, .inr (4, [.null, .int 0, .int 0]))] [.ref h0] (fun h => h 0 = h0) (fun h => wH g h (fun _ _ => 0) ([], 0, 0)) 1 8 := by
  refine fun sz => mt_of (cc := cX4_init) (maxL := 1) (ret := none) (own := RX4) (Qc := fun A => va_Qv (fun h : Nat → Nat => h 0 = h0) (fun h t => PosM g A (wH g h (fun _ _ => 0) ([], 0, 0)) t) A) (by decide +kernel) rfl rfl (Nat.le_of_ble_eq_true rfl) ?_ sz
  intro p e s mi below meth c A ls hB hnm hrt hlk hP hD hl
  obtain ⟨hx, hb, hml, hown, hts, hK, hZ, hT, hA, -⟩ := hB
  have hS : va_S A s.heap s.heap [] := va_S.rf
  have hl : lv_has ls 1 [(0, .ref h0)] := hl
  have hinX4 : ∀ w ∈ wsX40, w ∈ wsX4_init := by decide +kernel
  have kk0 := hts (.methodLink RX4 1 objectInit) (by decide +kernel)
  have kk1 := hts (.instanceMethod objectInit) (by decide +kernel)
  have kk2 := hts (.code objectInit ⟨#[0xb1]⟩ 1 none) (by decide +kernel)
  have kk3 := hts (.classLink RX4 9 "TerraceQuarry$Quarry") (by decide +kernel)
  have kk4 := hts (.fieldLink RX4 11 "TerraceQuarry$History" "states" "[LTerraceQuarry$Quarry;") (by decide +kernel)
  have kk5 := hts (.fieldLink RX4 15 "TerraceQuarry$History" "next" "I") (by decide +kernel)
  have kk6 := hts (.fieldLink RX4 19 "TerraceQuarry$History" "count" "I") (by decide +kernel)
  refine lv_aload_n hx hb dX4_init_0 rfl (lv_at hl 0 rfl) ?_
  refine W.objInit hx hb hown kk0 kk1 kk2 rfl (by rw [hml]; exact hl.1) rfl dX4_init_1 (Nat.le_of_ble_eq_true rfl) (Nat.le_of_ble_eq_true rfl) ?_
  refine W.eq (g2 := F0 mi 4 ls []) rfl ?_
  refine lv_aload_n hx hb dX4_init_4 rfl (lv_at hl 0 rfl) ?_
  refine lv_bipush (v := 8) hx hb dX4_init_5 (by decide) ?_
  refine va_newq (C := "TerraceQuarry$Quarry") hx hb hown kk3 hT.2.2.2.2.2.1 hK hP hD hS hA (by decide) (show (8 : Int32).toNatClampNeg = 8 from by decide) (by decide) (Nat.le_of_ble_eq_true rfl) (Nat.le_of_ble_eq_true rfl) dX4_init_7 (fun q1 cAq1 H hK9 hP hD hS => ?_)
  have ecAq1 := ar_id hK9 5 rfl
  rw [ecAq1] at hP hD
  have hP : va_P (gD g) vwCl [(h0, .inr (4, [.null, .int 0, .int 0])), (q1, .inl (gC g 5, 8, .inr (.inr (.inr (.inr (fun _ => none))))))] H := hP
  have hD : va_D A [(h0, .inr (4, [.null, .int 0, .int 0])), (q1, .inl (gC g 5, 8, .inr (.inr (.inr (.inr (fun _ => none))))))] := hD
  refine va_putF (D := gD g) (ci := 4) (v := .ref q1) (ty := .array (.object "TerraceQuarry$Quarry")) (C := RX4) (T := TX4) (N := 3) hx hb hts hinX4 tyX4 tyX4_ok nmX4 hown hK hP hD hS 0 rfl rfl 0 (by decide) kk4 (fun _ h9 => h9) rfl hnm rfl (tyX4_ok 0 (by decide)) rfl rfl (Nat.le_of_ble_eq_true rfl) dX4_init_10 (fun H locs hP hD hS => ?_)
  have hP : va_P (gD g) vwCl [(h0, .inr (4, [.ref q1, .int 0, .int 0])), (q1, .inl (gC g 5, 8, .inr (.inr (.inr (.inr (fun _ => none))))))] H := hP
  have hD : va_D A [(h0, .inr (4, [.ref q1, .int 0, .int 0])), (q1, .inl (gC g 5, 8, .inr (.inr (.inr (.inr (fun _ => none))))))] := hD
  refine lv_aload_n hx hb dX4_init_13 rfl (lv_at hl 0 rfl) ?_
  refine lv_iconst (v := 0) hx hb dX4_init_14 (by decide) ?_
  refine va_put (D := gD g) (ci := 4) (v := .int 0) (ty := .int) (C := RX4) (T := TX4) (N := 3) hx hb hts hinX4 tyX4 tyX4_ok nmX4 hown hK hP hD hS 0 rfl rfl 1 (by decide) kk5 (fun _ h9 => h9) rfl (tyX4_ok 1 (by decide)) rfl rfl (Nat.le_of_ble_eq_true rfl) dX4_init_15 (fun H locs hP hD hS => ?_)
  have hP : va_P (gD g) vwCl [(h0, .inr (4, [.ref q1, .int 0, .int 0])), (q1, .inl (gC g 5, 8, .inr (.inr (.inr (.inr (fun _ => none))))))] H := hP
  have hD : va_D A [(h0, .inr (4, [.ref q1, .int 0, .int 0])), (q1, .inl (gC g 5, 8, .inr (.inr (.inr (.inr (fun _ => none))))))] := hD
  refine lv_aload_n hx hb dX4_init_18 rfl (lv_at hl 0 rfl) ?_
  refine lv_iconst (v := 0) hx hb dX4_init_19 (by decide) ?_
  refine va_put (D := gD g) (ci := 4) (v := .int 0) (ty := .int) (C := RX4) (T := TX4) (N := 3) hx hb hts hinX4 tyX4 tyX4_ok nmX4 hown hK hP hD hS 0 rfl rfl 2 (by decide) kk6 (fun _ h9 => h9) rfl (tyX4_ok 2 (by decide)) rfl rfl (Nat.le_of_ble_eq_true rfl) dX4_init_20 (fun H locs hP hD hS => ?_)
  have hP : va_P (gD g) vwCl [(h0, .inr (4, [.ref q1, .int 0, .int 0])), (q1, .inl (gC g 5, 8, .inr (.inr (.inr (.inr (fun _ => none))))))] H := hP
  have hD : va_D A [(h0, .inr (4, [.ref q1, .int 0, .int 0])), (q1, .inl (gC g 5, 8, .inr (.inr (.inr (.inr (fun _ => none))))))] := hD
  exact rz_v (RT := Nat → Nat) (PR := fun h => h 0 = h0) (W1 := fun h => wH g h (fun _ _ => 0) ([], 0, 0)) (fun k => match k with | 0 => h0 | _ => q1) rfl hx hb hrt hlk hK hP hD hS (Nat.le_of_ble_eq_true rfl) (Nat.le_of_ble_eq_true rfl) dX4_init_23
def rm_X1_init : Room := { frames := 1, cells := 1, slots := 4, locals := 12 }
theorem hd_X1_init : yX1_init.cls ≠ "java/lang/invoke/MethodHandle" ∧ yX1_init.cls ≠ "java/lang/invoke/VarHandle" ∧ (parseMethodDescriptor yX1_init.desc).map (fun d => d.parameters.length) = some 1 := by decide +kernel
set_option maxHeartbeats 4000000 in
set_option maxRecDepth 100000 in
theorem c_X1_init (l : Launch) (g : GG) (h0 : Nat) (v : Nat) : MzV (RT := Nat → Nat) l yX1_init wsX1_init rm_X1_init g [(h0, .inr (3, [.null, .null, .int 0]))] [.ref h0, .ref (gS g 1 v)] (fun h => h 0 = h0) (fun h => wC g h (v, fun _ => 0, 0)) 1 4 := by
  refine fun sz => mt_of (cc := cX1_init) (maxL := 2) (ret := none) (own := RX1) (Qc := fun A => va_Qv (fun h : Nat → Nat => h 0 = h0) (fun h t => PosM g A (wC g h (v, fun _ => 0, 0)) t) A) (by decide +kernel) rfl rfl (Nat.le_of_ble_eq_true rfl) ?_ sz
  intro p e s mi below meth c A ls hB hnm hrt hlk hP hD hl
  obtain ⟨hx, hb, hml, hown, hts, hK, hZ, hT, hA, -⟩ := hB
  have hS : va_S A s.heap s.heap [] := va_S.rf
  have hl : lv_has ls 2 [(0, .ref h0), (1, .ref (gS g 1 v))] := hl
  have hinX1 : ∀ w ∈ wsX10, w ∈ wsX1_init := by decide +kernel
  have kk0 := hts (.methodLink RX1 1 objectInit) (by decide +kernel)
  have kk1 := hts (.instanceMethod objectInit) (by decide +kernel)
  have kk2 := hts (.code objectInit ⟨#[0xb1]⟩ 1 none) (by decide +kernel)
  have kk3 := hts (.fieldLink RX1 7 "TerraceQuarry$Command" "verb" "LTerraceQuarry$Verb;") (by decide +kernel)
  have kk4 := hts (.arrayClass .int) (by decide +kernel)
  have kk5 := hts (.fieldLink RX1 13 "TerraceQuarry$Command" "numbers" "[I") (by decide +kernel)
  have kk6 := hts (.fieldLink RX1 17 "TerraceQuarry$Command" "count" "I") (by decide +kernel)
  refine lv_aload_n hx hb dX1_init_0 rfl (lv_at hl 0 rfl) ?_
  refine W.objInit hx hb hown kk0 kk1 kk2 rfl (by rw [hml]; exact hl.1) rfl dX1_init_1 (Nat.le_of_ble_eq_true rfl) (Nat.le_of_ble_eq_true rfl) ?_
  refine W.eq (g2 := F0 mi 4 ls []) rfl ?_
  refine lv_aload_n hx hb dX1_init_4 rfl (lv_at hl 0 rfl) ?_
  refine lv_aload_n hx hb dX1_init_5 rfl (lv_at hl 1 rfl) ?_
  refine va_putF (D := gD g) (ci := 3) (v := .ref (gS g 1 v)) (ty := .object "TerraceQuarry$Verb") (C := RX1) (T := TX1) (N := 3) hx hb hts hinX1 tyX1 tyX1_ok nmX1 hown hK hP hD hS 0 rfl rfl 0 (by decide) kk3 (fun _ h9 => h9) rfl hnm rfl (tyX1_ok 0 (by decide)) rfl rfl (Nat.le_of_ble_eq_true rfl) dX1_init_6 (fun H locs hP hD hS => ?_)
  have hP : va_P (gD g) vwCl [(h0, .inr (3, [.ref (gS g 1 v), .null, .int 0]))] H := hP
  have hD : va_D A [(h0, .inr (3, [.ref (gS g 1 v), .null, .int 0]))] := hD
  refine lv_aload_n hx hb dX1_init_9 rfl (lv_at hl 0 rfl) ?_
  refine lv_iconst (v := 4) hx hb dX1_init_10 (by decide) ?_
  refine va_newa (atype := .int) (a0 := (4, .inl (fun _ => 0))) hx hb kk4 rfl hK hP hD hS hA (fun _ => rfl) (by decide) (show (4 : Int32).toNatClampNeg = 4 from by decide) (by decide) (Nat.le_of_ble_eq_true rfl) (Nat.le_of_ble_eq_true rfl) dX1_init_11 (fun q1 cAq1 H hK9 hP hD hS => ?_)
  have ecAq1 := ar_id hK9 0 rfl
  rw [ecAq1] at hP hD
  have hP : va_P (gD g) vwCl [(h0, .inr (3, [.ref (gS g 1 v), .null, .int 0])), (q1, .inl (gC g 0, 4, .inl (fun _ => 0)))] H := hP
  have hD : va_D A [(h0, .inr (3, [.ref (gS g 1 v), .null, .int 0])), (q1, .inl (gC g 0, 4, .inl (fun _ => 0)))] := hD
  refine va_putF (D := gD g) (ci := 3) (v := .ref q1) (ty := .array .int) (C := RX1) (T := TX1) (N := 3) hx hb hts hinX1 tyX1 tyX1_ok nmX1 hown hK hP hD hS 0 rfl rfl 1 (by decide) kk5 (fun _ h9 => h9) rfl hnm rfl (tyX1_ok 1 (by decide)) rfl rfl (Nat.le_of_ble_eq_true rfl) dX1_init_13 (fun H locs hP hD hS => ?_)
  have hP : va_P (gD g) vwCl [(h0, .inr (3, [.ref (gS g 1 v), .ref q1, .int 0])), (q1, .inl (gC g 0, 4, .inl (fun _ => 0)))] H := hP
  have hD : va_D A [(h0, .inr (3, [.ref (gS g 1 v), .ref q1, .int 0])), (q1, .inl (gC g 0, 4, .inl (fun _ => 0)))] := hD
  refine lv_aload_n hx hb dX1_init_16 rfl (lv_at hl 0 rfl) ?_
  refine lv_iconst (v := 0) hx hb dX1_init_17 (by decide) ?_
  refine va_put (D := gD g) (ci := 3) (v := .int 0) (ty := .int) (C := RX1) (T := TX1) (N := 3) hx hb hts hinX1 tyX1 tyX1_ok nmX1 hown hK hP hD hS 0 rfl rfl 2 (by decide) kk6 (fun _ h9 => h9) rfl (tyX1_ok 2 (by decide)) rfl rfl (Nat.le_of_ble_eq_true rfl) dX1_init_18 (fun H locs hP hD hS => ?_)
  have hP : va_P (gD g) vwCl [(h0, .inr (3, [.ref (gS g 1 v), .ref q1, .int 0])), (q1, .inl (gC g 0, 4, .inl (fun _ => 0)))] H := hP
  have hD : va_D A [(h0, .inr (3, [.ref (gS g 1 v), .ref q1, .int 0])), (q1, .inl (gC g 0, 4, .inl (fun _ => 0)))] := hD
  exact rz_v (RT := Nat → Nat) (PR := fun h => h 0 = h0) (W1 := fun h => wC g h (v, fun _ => 0, 0)) (fun k => match k with | 0 => h0 | _ => q1) rfl hx hb hrt hlk hK hP hD hS (Nat.le_of_ble_eq_true rfl) (Nat.le_of_ble_eq_true rfl) dX1_init_21
def rm_Jxa1e45_init_da8c8 : Room := { frames := 1, cells := 0, slots := 0, locals := 12 }
theorem hd_Jxa1e45_init_da8c8 : yJxa1e45_init_da8c8.cls ≠ "java/lang/invoke/MethodHandle" ∧ yJxa1e45_init_da8c8.cls ≠ "java/lang/invoke/VarHandle" ∧ (parseMethodDescriptor yJxa1e45_init_da8c8.desc).map (fun d => d.parameters.length) = some 0 := by decide +kernel
set_option maxHeartbeats 4000000 in
set_option maxRecDepth 100000 in
theorem c_Jxa1e45_init_da8c8 (l : Launch) (g : GG) (h0 : Nat) : MzV (RT := Unit) l yJxa1e45_init_da8c8 wsJxa1e45_init_da8c8 rm_Jxa1e45_init_da8c8 g [(h0, .inr (2, [.int 0, .null, .int 0]))] [.ref h0] (fun _ => True) (fun _ => [(h0, .inr (2, [.int 0, .null, .int 0]))]) 0 0 := by
  refine fun sz => mt_of (cc := cJxa1e45_init_da8c8) (maxL := 1) (ret := none) (own := RJxa1e45) (Qc := fun A => va_Qv (fun _ : Unit => True) (fun _ t => PosM g A [(h0, .inr (2, [.int 0, .null, .int 0]))] t) A) (by decide +kernel) rfl rfl (Nat.le_of_ble_eq_true rfl) ?_ sz
  intro p e s mi below meth c A ls hB hnm hrt hlk hP hD hl
  obtain ⟨hx, hb, hml, hown, hts, hK, hZ, hT, hA, -⟩ := hB
  have hS : va_S A s.heap s.heap [] := va_S.rf
  have hl : lv_has ls 1 [(0, .ref h0)] := hl
  have kk0 := hts (.methodLink RJxa1e45 1 objectInit) (by decide +kernel)
  have kk1 := hts (.instanceMethod objectInit) (by decide +kernel)
  have kk2 := hts (.code objectInit ⟨#[0xb1]⟩ 1 none) (by decide +kernel)
  refine lv_aload_n hx hb dJxa1e45_init_da8c8_0 rfl (lv_at hl 0 rfl) ?_
  refine W.objInit hx hb hown kk0 kk1 kk2 rfl (by rw [hml]; exact hl.1) rfl dJxa1e45_init_da8c8_1 (Nat.le_of_ble_eq_true rfl) (Nat.le_of_ble_eq_true rfl) ?_
  refine W.eq (g2 := F0 mi 4 ls []) rfl ?_
  exact rz_v (RT := Unit) (PR := fun _ => True) (W1 := fun _ => [(h0, .inr (2, [.int 0, .null, .int 0]))]) () trivial hx hb hrt hlk hK hP hD hS (Nat.le_of_ble_eq_true rfl) (Nat.le_of_ble_eq_true rfl) dJxa1e45_init_da8c8_4
def rm_Jxc12de_init_da8c8 : Room := { frames := 2, cells := 0, slots := 0, locals := 32 }
theorem hd_Jxc12de_init_da8c8 : yJxc12de_init_da8c8.cls ≠ "java/lang/invoke/MethodHandle" ∧ yJxc12de_init_da8c8.cls ≠ "java/lang/invoke/VarHandle" ∧ (parseMethodDescriptor yJxc12de_init_da8c8.desc).map (fun d => d.parameters.length) = some 0 := by decide +kernel
set_option maxHeartbeats 4000000 in
set_option maxRecDepth 100000 in
theorem c_Jxc12de_init_da8c8 (l : Launch) (g : GG) (h0 : Nat) : MzV (RT := Unit) l yJxc12de_init_da8c8 wsJxc12de_init_da8c8 rm_Jxc12de_init_da8c8 g [(h0, .inr (2, [.int 0, .null, .int 0]))] [.ref h0] (fun _ => True) (fun _ => [(h0, .inr (2, [.int 0, .null, .int 0]))]) 0 0 := by
  refine fun sz => mt_of (cc := cJxc12de_init_da8c8) (maxL := 1) (ret := none) (own := RJxc12de) (Qc := fun A => va_Qv (fun _ : Unit => True) (fun _ t => PosM g A [(h0, .inr (2, [.int 0, .null, .int 0]))] t) A) (by decide +kernel) rfl rfl (Nat.le_of_ble_eq_true rfl) ?_ sz
  intro p e s mi below meth c A ls hB hnm hrt hlk hP hD hl
  obtain ⟨hx, hb, hml, hown, hts, hK, hZ, hT, hA, -⟩ := hB
  have hS : va_S A s.heap s.heap [] := va_S.rf
  have hl : lv_has ls 1 [(0, .ref h0)] := hl
  have hinJx4a65c : ∀ w ∈ wsJx4a65c0, w ∈ wsJxc12de_init_da8c8 := by decide +kernel
  have kk0 := hts (.initialized RJxa1e45) (by decide +kernel)
  have kk1 := hts (.methodLink RJxc12de 1 yJxa1e45_init_da8c8) (by decide +kernel)
  have kk2 := hts (.instanceMethod yJxa1e45_init_da8c8) (by decide +kernel)
  have kk3 := hts (.fieldLink RJxc12de 7 "java/util/AbstractList" "modCount" "I") (by decide +kernel)
  refine lv_aload_n hx hb dJxc12de_init_da8c8_0 rfl (lv_at hl 0 rfl) ?_
  refine czI_v (As := []) (rest := []) (Wr := []) (Wn := fun u => [(h0, .inr (2, [.int 0, .null, .int 0]))]) ⟨hx, hb, hml, hown, hts⟩ (c_Jxa1e45_init_da8c8 l g h0) (cwI 0 hts gJxc12de_init_da8c8_Jxa1e45_init_da8c8 rfl rfl rfl kk0 kk1 kk2 rfl (by decide +kernel) ⟨(Nat.le_of_ble_eq_true rfl), (Nat.le_of_ble_eq_true rfl)⟩) hK hZ hT hA hP hD hS hl.1 (wp_of fun f => by simp only [List.countP_append, List.countP_cons, List.countP_nil] <;> omega) (fun _ => (wp_of fun f => by simp only [List.countP_append, List.countP_cons, List.countP_nil] <;> omega)) rfl rfl (Nat.le_of_ble_eq_true rfl) ⟨(Nat.le_of_ble_eq_true rfl), (Nat.le_of_ble_eq_true rfl)⟩ dJxc12de_init_da8c8_1 (fun u H locs ho hP hD hS => ?_)
  refine lv_aload_n hx hb dJxc12de_init_da8c8_4 rfl (lv_at hl 0 rfl) ?_
  refine lv_iconst (v := 0) hx hb dJxc12de_init_da8c8_5 (by decide) ?_
  refine va_put (D := gD g) (ci := 2) (v := .int 0) (ty := .int) (C := RJx4a65c) (T := TJx4a65c) (N := 3) hx hb hts hinJx4a65c tyJx4a65c tyJx4a65c_ok nmJx4a65c hown hK hP hD hS 0 rfl rfl 0 (by decide) kk3 (fun _ h9 => h9) rfl (tyJx4a65c_ok 0 (by decide)) rfl rfl (Nat.le_of_ble_eq_true rfl) dJxc12de_init_da8c8_6 (fun H locs hP hD hS => ?_)
  have hP : va_P (gD g) vwCl [(h0, .inr (2, [.int 0, .null, .int 0]))] H := hP
  have hD : va_D A [(h0, .inr (2, [.int 0, .null, .int 0]))] := hD
  exact rz_v (RT := Unit) (PR := fun _ => True) (W1 := fun _ => [(h0, .inr (2, [.int 0, .null, .int 0]))]) () trivial hx hb hrt hlk hK hP hD hS (Nat.le_of_ble_eq_true rfl) (Nat.le_of_ble_eq_true rfl) dJxc12de_init_da8c8_9
def rm_Jx4a65c_init_da8c8 : Room := { frames := 3, cells := 0, slots := 0, locals := 52 }
theorem hd_Jx4a65c_init_da8c8 : yJx4a65c_init_da8c8.cls ≠ "java/lang/invoke/MethodHandle" ∧ yJx4a65c_init_da8c8.cls ≠ "java/lang/invoke/VarHandle" ∧ (parseMethodDescriptor yJx4a65c_init_da8c8.desc).map (fun d => d.parameters.length) = some 0 := by decide +kernel
set_option maxHeartbeats 4000000 in
set_option maxRecDepth 100000 in
theorem c_Jx4a65c_init_da8c8 (l : Launch) (g : GG) (h0 : Nat) : MzV (RT := Unit) l yJx4a65c_init_da8c8 wsJx4a65c_init_da8c8 rm_Jx4a65c_init_da8c8 g [(h0, .inr (2, [.int 0, .null, .int 0]))] [.ref h0] (fun _ => True) (fun _ => [(h0, .inr (2, [.int 0, .ref (gS g 4 3), .int 0]))]) 0 0 := by
  refine fun sz => mt_of (cc := cJx4a65c_init_da8c8) (maxL := 1) (ret := none) (own := RJx4a65c) (Qc := fun A => va_Qv (fun _ : Unit => True) (fun _ t => PosM g A [(h0, .inr (2, [.int 0, .ref (gS g 4 3), .int 0]))] t) A) (by decide +kernel) rfl rfl (Nat.le_of_ble_eq_true rfl) ?_ sz
  intro p e s mi below meth c A ls hB hnm hrt hlk hP hD hl
  obtain ⟨hx, hb, hml, hown, hts, hK, hZ, hT, hA, -⟩ := hB
  have hS : va_S A s.heap s.heap [] := va_S.rf
  have hl : lv_has ls 1 [(0, .ref h0)] := hl
  have hinJx4a65c : ∀ w ∈ wsJx4a65c0, w ∈ wsJx4a65c_init_da8c8 := by decide +kernel
  have kk0 := hts (.initialized RJxc12de) (by decide +kernel)
  have kk1 := hts (.methodLink RJx4a65c 1 yJxc12de_init_da8c8) (by decide +kernel)
  have kk2 := hts (.instanceMethod yJxc12de_init_da8c8) (by decide +kernel)
  have kk3 := hts (.fieldLink RJx4a65c 39 "java/util/ArrayList" "DEFAULTCAPACITY_EMPTY_ELEMENTDATA" "[Ljava/lang/Object;") (by decide +kernel)
  have kk4 := hts (.fieldLink RJx4a65c 9 "java/util/ArrayList" "elementData" "[Ljava/lang/Object;") (by decide +kernel)
  refine lv_aload_n hx hb dJx4a65c_init_da8c8_0 rfl (lv_at hl 0 rfl) ?_
  refine czI_v (As := []) (rest := []) (Wr := []) (Wn := fun u => [(h0, .inr (2, [.int 0, .null, .int 0]))]) ⟨hx, hb, hml, hown, hts⟩ (c_Jxc12de_init_da8c8 l g h0) (cwI 0 hts gJx4a65c_init_da8c8_Jxc12de_init_da8c8 rfl rfl rfl kk0 kk1 kk2 rfl (by decide +kernel) ⟨(Nat.le_of_ble_eq_true rfl), (Nat.le_of_ble_eq_true rfl)⟩) hK hZ hT hA hP hD hS hl.1 (wp_of fun f => by simp only [List.countP_append, List.countP_cons, List.countP_nil] <;> omega) (fun _ => (wp_of fun f => by simp only [List.countP_append, List.countP_cons, List.countP_nil] <;> omega)) rfl rfl (Nat.le_of_ble_eq_true rfl) ⟨(Nat.le_of_ble_eq_true rfl), (Nat.le_of_ble_eq_true rfl)⟩ dJx4a65c_init_da8c8_1 (fun u H locs ho hP hD hS => ?_)
  refine lv_aload_n hx hb dJx4a65c_init_da8c8_4 rfl (lv_at hl 0 rfl) ?_
  refine va_gets (C := "java/util/ArrayList") (n := "DEFAULTCAPACITY_EMPTY_ELEMENTDATA") (d := "[Ljava/lang/Object;") (v := .ref (gS g 4 3)) hx hb hZ.2.2.2.2.2.2.2.1.1 hS hown kk3 (fun _ h9 => h9) dJx4a65c_init_da8c8_5 ?_
  refine va_put (D := gD g) (ci := 2) (v := .ref (gS g 4 3)) (ty := .array (.object "java/lang/Object")) (C := RJx4a65c) (T := TJx4a65c) (N := 3) hx hb hts hinJx4a65c tyJx4a65c tyJx4a65c_ok nmJx4a65c hown hK hP hD hS 0 rfl rfl 1 (by decide) kk4 (fun _ h9 => h9) rfl (tyJx4a65c_ok 1 (by decide)) rfl rfl (Nat.le_of_ble_eq_true rfl) dJx4a65c_init_da8c8_8 (fun H locs hP hD hS => ?_)
  have hP : va_P (gD g) vwCl [(h0, .inr (2, [.int 0, .ref (gS g 4 3), .int 0]))] H := hP
  have hD : va_D A [(h0, .inr (2, [.int 0, .ref (gS g 4 3), .int 0]))] := hD
  exact rz_v (RT := Unit) (PR := fun _ => True) (W1 := fun _ => [(h0, .inr (2, [.int 0, .ref (gS g 4 3), .int 0]))]) () trivial hx hb hrt hlk hK hP hD hS (Nat.le_of_ble_eq_true rfl) (Nat.le_of_ble_eq_true rfl) dJx4a65c_init_da8c8_11
def rm_X6_init : Room := { frames := 4, cells := 2, slots := 63, locals := 72 }
theorem hd_X6_init : yX6_init.cls ≠ "java/lang/invoke/MethodHandle" ∧ yX6_init.cls ≠ "java/lang/invoke/VarHandle" ∧ (parseMethodDescriptor yX6_init.desc).map (fun d => d.parameters.length) = some 0 := by decide +kernel
set_option maxHeartbeats 4000000 in
set_option maxRecDepth 100000 in
theorem c_X6_init (l : Launch) (g : GG) (h0 : Nat) : MzV (RT := Nat → Nat) l yX6_init wsX6_init rm_X6_init g [(h0, .inr (6, [.null, .null, .int 0]))] [.ref h0] (fun h => h 0 = h0) (fun h => wP g h (fun _ => 0, 0) ++ wL g (h 2) (0, 0, none)) 2 63 := by
  refine fun sz => mt_of (cc := cX6_init) (maxL := 1) (ret := none) (own := RX6) (Qc := fun A => va_Qv (fun h : Nat → Nat => h 0 = h0) (fun h t => PosM g A (wP g h (fun _ => 0, 0) ++ wL g (h 2) (0, 0, none)) t) A) (by decide +kernel) rfl rfl (Nat.le_of_ble_eq_true rfl) ?_ sz
  intro p e s mi below meth c A ls hB hnm hrt hlk hP hD hl
  obtain ⟨hx, hb, hml, hown, hts, hK, hZ, hT, hA, -⟩ := hB
  have hS : va_S A s.heap s.heap [] := va_S.rf
  have hl : lv_has ls 1 [(0, .ref h0)] := hl
  have hinJx4a65c : ∀ w ∈ wsJx4a65c0, w ∈ wsX6_init := by decide +kernel
  have hinX6 : ∀ w ∈ wsX60, w ∈ wsX6_init := by decide +kernel
  have kk0 := hts (.methodLink RX6 1 objectInit) (by decide +kernel)
  have kk1 := hts (.instanceMethod objectInit) (by decide +kernel)
  have kk2 := hts (.code objectInit ⟨#[0xb1]⟩ 1 none) (by decide +kernel)
  have kk3 := hts (.arrayClass .char) (by decide +kernel)
  have kk4 := hts (.fieldLink RX6 9 "TerraceQuarry$Program" "text" "[C") (by decide +kernel)
  have kk5 := hts (.classLink RX6 13 RJx4a65c) (by decide +kernel)
  have kk6 := hts (.instantiable RJx4a65c 3) (by decide +kernel)
  have kk7 := hts (.initialized RJx4a65c) (by decide +kernel)
  have kk8 := hts (.methodLink RX6 15 yJx4a65c_init_da8c8) (by decide +kernel)
  have kk9 := hts (.instanceMethod yJx4a65c_init_da8c8) (by decide +kernel)
  have kk10 := hts (.fieldLink RX6 16 "TerraceQuarry$Program" "commands" "Ljava/util/ArrayList;") (by decide +kernel)
  have kk11 := hts (.fieldLink RX6 20 "TerraceQuarry$Program" "length" "I") (by decide +kernel)
  refine lv_aload_n hx hb dX6_init_0 rfl (lv_at hl 0 rfl) ?_
  refine W.objInit hx hb hown kk0 kk1 kk2 rfl (by rw [hml]; exact hl.1) rfl dX6_init_1 (Nat.le_of_ble_eq_true rfl) (Nat.le_of_ble_eq_true rfl) ?_
  refine W.eq (g2 := F0 mi 4 ls []) rfl ?_
  refine lv_aload_n hx hb dX6_init_4 rfl (lv_at hl 0 rfl) ?_
  refine lv_bipush (v := 60) hx hb dX6_init_5 (by decide) ?_
  refine va_newa (atype := .char) (a0 := (60, .inl (fun _ => 0))) hx hb kk3 rfl hK hP hD hS hA (fun _ => rfl) (by decide) (show (60 : Int32).toNatClampNeg = 60 from by decide) (by decide) (Nat.le_of_ble_eq_true rfl) (Nat.le_of_ble_eq_true rfl) dX6_init_7 (fun q1 cAq1 H hK9 hP hD hS => ?_)
  have ecAq1 := ar_id hK9 2 rfl
  rw [ecAq1] at hP hD
  have hP : va_P (gD g) vwCl [(h0, .inr (6, [.null, .null, .int 0])), (q1, .inl (gC g 2, 60, .inl (fun _ => 0)))] H := hP
  have hD : va_D A [(h0, .inr (6, [.null, .null, .int 0])), (q1, .inl (gC g 2, 60, .inl (fun _ => 0)))] := hD
  refine va_putF (D := gD g) (ci := 6) (v := .ref q1) (ty := .array .char) (C := RX6) (T := TX6) (N := 3) hx hb hts hinX6 tyX6 tyX6_ok nmX6 hown hK hP hD hS 0 rfl rfl 0 (by decide) kk4 (fun _ h9 => h9) rfl hnm rfl (tyX6_ok 0 (by decide)) rfl rfl (Nat.le_of_ble_eq_true rfl) dX6_init_9 (fun H locs hP hD hS => ?_)
  have hP : va_P (gD g) vwCl [(h0, .inr (6, [.ref q1, .null, .int 0])), (q1, .inl (gC g 2, 60, .inl (fun _ => 0)))] H := hP
  have hD : va_D A [(h0, .inr (6, [.ref q1, .null, .int 0])), (q1, .inl (gC g 2, 60, .inl (fun _ => 0)))] := hD
  refine lv_aload_n hx hb dX6_init_12 rfl (lv_at hl 0 rfl) ?_
  refine va_new (ci := 2) (fs := [.int 0, .null, .int 0]) (C := RJx4a65c) (T := TJx4a65c) (N := 3) hx hb hts hinJx4a65c tyJx4a65c tyJx4a65c_ok hown kk5 kk6 kk7 hK hP hD hS hA rfl (fun j hj => by rcases (show j = 0 ∨ j = 1 ∨ j = 2 by omega) with rfl | rfl | rfl <;> rfl) (Nat.le_of_ble_eq_true rfl) (Nat.le_of_ble_eq_true rfl) dX6_init_13 (fun q2 H hP hD hS => ?_)
  have hP : va_P (gD g) vwCl [(h0, .inr (6, [.ref q1, .null, .int 0])), (q1, .inl (gC g 2, 60, .inl (fun _ => 0))), (q2, .inr (2, [.int 0, .null, .int 0]))] H := hP
  have hD : va_D A [(h0, .inr (6, [.ref q1, .null, .int 0])), (q1, .inl (gC g 2, 60, .inl (fun _ => 0))), (q2, .inr (2, [.int 0, .null, .int 0]))] := hD
  refine lv_dup hx hb dX6_init_16 rfl ?_
  refine czI_v (As := []) (rest := [.ref q2, .ref h0]) (Wr := [(h0, .inr (6, [.ref q1, .null, .int 0])), (q1, .inl (gC g 2, 60, .inl (fun _ => 0)))]) (Wn := fun u => [(h0, .inr (6, [.ref q1, .null, .int 0])), (q1, .inl (gC g 2, 60, .inl (fun _ => 0))), (q2, .inr (2, [.int 0, .ref (gS g 4 3), .int 0]))]) ⟨hx, hb, hml, hown, hts⟩ (c_Jx4a65c_init_da8c8 l g q2) (cwI 0 hts gX6_init_Jx4a65c_init_da8c8 rfl rfl rfl kk7 kk8 kk9 rfl (by decide +kernel) ⟨(Nat.le_of_ble_eq_true rfl), (Nat.le_of_ble_eq_true rfl)⟩) hK hZ hT hA hP hD hS hl.1 (wp_of fun f => by simp only [List.countP_append, List.countP_cons, List.countP_nil] <;> omega) (fun _ => (wp_of fun f => by simp only [List.countP_append, List.countP_cons, List.countP_nil] <;> omega)) rfl rfl (Nat.le_of_ble_eq_true rfl) ⟨(Nat.le_of_ble_eq_true rfl), (Nat.le_of_ble_eq_true rfl)⟩ dX6_init_17 (fun u H locs ho hP hD hS => ?_)
  refine va_putF (D := gD g) (ci := 6) (v := .ref q2) (ty := .object "java/util/ArrayList") (C := RX6) (T := TX6) (N := 3) hx hb hts hinX6 tyX6 tyX6_ok nmX6 hown hK hP hD hS 0 rfl rfl 1 (by decide) kk10 (fun _ h9 => h9) rfl hnm rfl (tyX6_ok 1 (by decide)) rfl rfl (Nat.le_of_ble_eq_true rfl) dX6_init_20 (fun H locs hP hD hS => ?_)
  have hP : va_P (gD g) vwCl [(h0, .inr (6, [.ref q1, .ref q2, .int 0])), (q1, .inl (gC g 2, 60, .inl (fun _ => 0))), (q2, .inr (2, [.int 0, .ref (gS g 4 3), .int 0]))] H := hP
  have hD : va_D A [(h0, .inr (6, [.ref q1, .ref q2, .int 0])), (q1, .inl (gC g 2, 60, .inl (fun _ => 0))), (q2, .inr (2, [.int 0, .ref (gS g 4 3), .int 0]))] := hD
  refine lv_aload_n hx hb dX6_init_23 rfl (lv_at hl 0 rfl) ?_
  refine lv_iconst (v := 0) hx hb dX6_init_24 (by decide) ?_
  refine va_put (D := gD g) (ci := 6) (v := .int 0) (ty := .int) (C := RX6) (T := TX6) (N := 3) hx hb hts hinX6 tyX6 tyX6_ok nmX6 hown hK hP hD hS 0 rfl rfl 2 (by decide) kk11 (fun _ h9 => h9) rfl (tyX6_ok 2 (by decide)) rfl rfl (Nat.le_of_ble_eq_true rfl) dX6_init_25 (fun H locs hP hD hS => ?_)
  have hP : va_P (gD g) vwCl [(h0, .inr (6, [.ref q1, .ref q2, .int 0])), (q1, .inl (gC g 2, 60, .inl (fun _ => 0))), (q2, .inr (2, [.int 0, .ref (gS g 4 3), .int 0]))] H := hP
  have hD : va_D A [(h0, .inr (6, [.ref q1, .ref q2, .int 0])), (q1, .inl (gC g 2, 60, .inl (fun _ => 0))), (q2, .inr (2, [.int 0, .ref (gS g 4 3), .int 0]))] := hD
  exact rz_v (RT := Nat → Nat) (PR := fun h => h 0 = h0) (W1 := fun h => wP g h (fun _ => 0, 0) ++ wL g (h 2) (0, 0, none)) (fun k => match k with | 0 => h0 | 1 => q1 | _ => q2) rfl hx hb hrt hlk hK hP hD hS (Nat.le_of_ble_eq_true rfl) (Nat.le_of_ble_eq_true rfl) dX6_init_28
