def f_L_told (a0 : Int32) : Option Int32 :=
  if a0 = 0 then
  (some 0)
  else
  (some 1)
def f_L_far (a0 : Int32) (a1 : Int32) : Option Int32 :=
  some ((jAbs ((a0 / 6) - (a1 / 6))) + (jAbs ((a0 - a0 / 6 * 6) - (a1 - a1 / 6 * 6))))
def f_L_cell_J15 (g : GG) (x1 : Int32) (y0 : Int32) (y1 : Int32) : Option Int32 :=
  jbN ((y1 * (y0 + (1009 * x1))) + 12345) fun z2 =>
  jbN ((z2 ^^^ ((z2.toUInt32 >>> ((13 : Int32).toUInt32 &&& Int32.toUInt32 31)).toInt32)) * (1103515245 : Int32)) fun z3 =>
  some (z3 ^^^ ((z3.toUInt32 >>> ((16 : Int32).toUInt32 &&& Int32.toUInt32 31)).toInt32))
def f_L_cell (g : GG) (a1 : Int32) : Option Int32 :=
  if (Int32.ofNat (gS g 5 1)) ≤ a1 then
  (f_L_cell_J15 g a1 0 (69069 : Int32))
  else
  (if jIn a1 (gS g 5 1) then
  f_L_cell_J15 g a1 (nI (gS g 6 a1.toNatClampNeg)) (69069 : Int32)
  else none)
def f_L_pick (g : GG) (a1 : Int32) (a2 : Int32) : Option Int32 :=
  (f_L_cell g a1).bind fun o1 =>
  if ¬ a2 = 0 then
  some (((o1.toUInt32 >>> ((8 : Int32).toUInt32 &&& Int32.toUInt32 31)).toInt32) - ((o1.toUInt32 >>> ((8 : Int32).toUInt32 &&& Int32.toUInt32 31)).toInt32) / a2 * a2)
  else none
def f_L_plain (qv : QV) (hv : HV) (a1 : Int32) (a2 : Int32) (a3 : Int32) (a4 : Int32) (a5 : Int32) : Option (Sum (Nat × QV × HV) (Int32 × QV × HV)) :=
  if a1 = 0 then
  ((f_X10_setStone (none, -1, -1) qv hv a2 a3 a4).bind fun o => jbM o (fun x => some (.inl x)) (fun y =>
  some (.inr y)))
  else
  if a1 = 1 then
  ((f_X10_cut (none, -1, -1) qv hv a2 a3).bind fun o => jbM o (fun x => some (.inl x)) (fun y =>
  some (.inr y)))
  else
  if a1 = 2 then
  ((f_X10_fill (none, -1, -1) qv hv a2 a3).bind fun o => jbM o (fun x => some (.inl x)) (fun y =>
  some (.inr y)))
  else
  if a1 = 3 then
  ((f_X10_toggleLedge (none, -1, -1) qv hv a2 a3).bind fun o => jbM o (fun x => some (.inl x)) (fun y =>
  (f_L_told y.1).bind fun k9 => some (.inr (k9, y.2))))
  else
  if a1 = 4 then
  ((f_X10_setStepLimit (none, -1, -1) qv hv a2).bind fun o => jbM o (fun x => some (.inl x)) (fun y =>
  some (.inr y)))
  else
  if a1 = 5 then
  ((f_X10_addWinch (none, -1, -1) qv hv a2 a3 a4 a5).bind fun o => jbM o (fun x => some (.inl x)) (fun y =>
  some (.inr y)))
  else
  if a1 = 6 then
  ((f_X10_lift (none, -1, -1) qv hv a4 a2 a3).bind fun o => jbM o (fun x => some (.inl x)) (fun y =>
  some (.inr y)))
  else
  if a1 = 7 then
  ((f_X10_crush (none, -1, -1) qv hv a2 a3).bind fun o => jbM o (fun x => some (.inl x)) (fun y =>
  some (.inr y)))
  else
  none
def f_L_deed (qv : QV) (hv : HV) (a1 : Int32) (a2 : Int32) (a3 : Int32) (a4 : Int32) (a5 : Int32) : Option (Int32 × QV × HV) :=
  (f_L_plain qv hv a1 a2 a3 a4 a5).bind fun o => jbM o (fun x => if x.1 = 0 then some (-2002, x.2) else if x.1 = 1 then some (-2003, x.2) else if x.1 = 3 then some (-2005, x.2) else if x.1 = 4 then some (-2001, x.2) else if x.1 = 2 then some (-2004, x.2) else none) (fun y => some y)
def f_L_asked (qv : QV) (sv : SV) (a1 : Int32) (a2 : Int32) (a3 : Int32) (a4 : Int32) (a5 : Int32) : Option (Sum (Nat × SV) (Int32 × SV)) :=
  if a1 = 0 then
  ((f_X10_height (none, -1, -1) qv a2 a3).bind fun o => jbM o (fun x => some (.inl (x, sv))) (fun y =>
  some (.inr (y, sv))))
  else
  if a1 = 1 then
  ((f_X10_topBlock (none, -1, -1) qv a2 a3).bind fun o => jbM o (fun x => some (.inl (x, sv))) (fun y =>
  some (.inr (y, sv))))
  else
  if a1 = 2 then
  ((f_X10_cellsAt (none, -1, -1) qv a2).bind fun o => jbM o (fun x => some (.inl (x, sv))) (fun y =>
  some (.inr (y, sv))))
  else
  if a1 = 3 then
  ((f_X10_cutsToLower (none, -1, -1) qv a2 a3 a4).bind fun o => jbM o (fun x => some (.inl (x, sv))) (fun y =>
  some (.inr (y, sv))))
  else
  if a1 = 4 then
  ((f_X10_cutsToLowerBySpreading (none, -1, -1) qv sv a2 a3 a4).bind fun o => jbM o (fun x => some (.inl x)) (fun y =>
  some (.inr y)))
  else
  if a1 = 5 then
  ((f_X10_footpath (none, -1, -1) qv sv a2 a3 a4 a5).bind fun o => jbM o (fun x => some (.inl x)) (fun y =>
  some (.inr y)))
  else
  if a1 = 6 then
  ((f_X10_liftableCells (none, -1, -1) qv a2).bind fun o => jbM o (fun x => some (.inl (x, sv))) (fun y =>
  some (.inr (y, sv))))
  else
  if a1 = 7 then
  ((f_X10_bestWinch (none, -1, -1) qv a2 a3).bind fun o => jbM o (fun x => some (.inl (x, sv))) (fun y =>
  some (.inr (y, sv))))
  else
  if a1 = 8 then
  ((f_X10_inYard (none, -1, -1) qv a2).bind fun o => jbM o (fun x => some (.inl (x, sv))) (fun y =>
  some (.inr (y, sv))))
  else
  if a1 = 9 then
  (none)
  else
  none
def f_L_ask (qv : QV) (sv : SV) (a1 : Int32) (a2 : Int32) (a3 : Int32) (a4 : Int32) (a5 : Int32) : Option (Int32 × SV) :=
  (f_L_asked qv sv a1 a2 a3 a4 a5).bind fun o => jbM o (fun x => if x.1 = 0 then some (-2002, x.2) else if x.1 = 1 then some (-2003, x.2) else if x.1 = 2 then some (-2004, x.2) else none) (fun y => some y)
def f_L_steepest_J74 (qv : QV) (x1 : Int32) (x2 : Int32) (x4 : Int32) (y0 : Int32) : Option (Sum (Int32 × Int32) (Int32 × Int32)) :=
  some (.inl (y0, (x4 + 1)))
def f_L_steepest_L5 (qv : QV) (x1 : Int32) (x2 : Int32) (x3 : Int32) (x4 : Int32) : Option (Sum (Int32 × Int32) (Int32 × Int32)) :=
  if 30 ≤ x4 then
  (some (.inr (x3, x4)))
  else
  (jbN ((jAbs ((x1 / 6) - (x4 / 6))) + (jAbs ((x1 - x1 / 6 * 6) - (x4 - x4 / 6 * 6)))) fun z1 =>
  if z1 = 1 then
  ((f_X10_height (none, -1, -1) qv (x4 / 6) (x4 - x4 / 6 * 6)).bind fun o2 => jbM o2 (fun _ => none) (fun o2 =>
  f_L_steepest_J74 qv x1 x2 x4 (jMax x3 (jAbs (x2 - o2)))))
  else
  (f_L_steepest_J74 qv x1 x2 x4 x3))
def f_L_steepest (qv : QV) (a1 : Int32) (a2 : Int32) : Option Int32 :=
  (jbL (fun s => f_L_steepest_L5 qv a1 a2 (s.1) (s.2)) 5000 (0, 0)).bind fun o5 =>
  some (o5.1)
def f_L_looks_L202 (qv : QV) (sv : SV) (ov : OV) (x2 : Int32) (x3 : Int32) (x1 : Int32) (x4 : Int32) : Option (Sum (Int32 × Int32) (Int32 × Int32)) :=
  if x3 ≤ x4 then
  (some (.inr (x1, x4)))
  else
  ((f_X10_outputAt (none, -1, -1) ov x4).bind fun o34 => jbM o34 (fun _ => none) (fun o34 =>
  jbN ((31 * x1) + o34) fun z36 =>
  some (.inl (z36, (x4 + 1)))))
def f_L_looks_L188 (qv : QV) (sv : SV) (x1 : Int32) (x2 : Int32) (ov : OV) : Option (Sum (Int32 × Int32 × OV) (Int32 × Int32 × OV)) :=
  if 5 ≤ x2 then
  (some (.inr (x1, x2, ov)))
  else
  ((f_X10_writeRow (none, -1, -1) qv ov x2).bind fun o31 => jbM o31 (fun _ => none) (fun o31 =>
  jbN (o31.1) fun z33 =>
  (jbL (fun s => f_L_looks_L202 qv sv (o31.2) x2 z33 (s.1) (s.2)) 60 (x1, 0)).bind fun o202 =>
  some (.inl ((o202.1), (x2 + 1), (o31.2)))))
def f_L_looks_L164 (qv : QV) (sv : SV) (ov : OV) (x1 : Int32) (x2 : Int32) : Option (Sum (Int32 × Int32) (Int32 × Int32)) :=
  if 4 ≤ x2 then
  (some (.inr (x1, x2)))
  else
  ((f_X10_inYard (none, -1, -1) qv x2).bind fun o28 => jbM o28 (fun _ => none) (fun o28 =>
  jbN ((31 * x1) + o28) fun z30 =>
  some (.inl (z30, (x2 + 1)))))
def f_L_looks_L40 (qv : QV) (ov : OV) (x1 : Int32) (x2 : Int32) (sv : SV) : Option (Sum (Int32 × Int32 × SV) (Int32 × Int32 × SV)) :=
  if 30 ≤ x2 then
  (some (.inr (x1, x2, sv)))
  else
  ((f_X10_height (none, -1, -1) qv (x2 / 6) (x2 - x2 / 6 * 6)).bind fun o12 => jbM o12 (fun _ => none) (fun o12 =>
  (f_X10_stone (none, -1, -1) qv (x2 / 6) (x2 - x2 / 6 * 6)).bind fun o14 => jbM o14 (fun _ => none) (fun o14 =>
  (f_X10_isLedge (none, -1, -1) qv (x2 / 6) (x2 - x2 / 6 * 6)).bind fun o16 => jbM o16 (fun _ => none) (fun o16 =>
  (f_L_told o16).bind fun o18 =>
  jbN ((31 * ((31 * ((31 * x1) + o12)) + o14)) + o18) fun z20 =>
  (f_X10_looseBlocks (none, -1, -1) qv (x2 / 6) (x2 - x2 / 6 * 6)).bind fun o21 => jbM o21 (fun _ => none) (fun o21 =>
  (f_L_ask qv sv 1 (x2 / 6) (x2 - x2 / 6 * 6) 0 0).bind fun o23 =>
  (f_L_ask qv (o23.2) 7 (x2 / 6) (x2 - x2 / 6 * 6) 0 0).bind fun o25 =>
  jbN ((31 * ((31 * ((31 * z20) + o21)) + (o23.1))) + (o25.1)) fun z27 =>
  some (.inl (z27, (x2 + 1), (o25.2))))))))
def f_L_looks (qv : QV) (sv : SV) (ov : OV) : Option (Int32 × SV × OV) :=
  (f_X10_stepLimit (none, -1, -1) qv).bind fun o1 =>
  (f_X10_rubble (none, -1, -1) qv).bind fun o3 =>
  (f_X10_cutTotal (none, -1, -1) qv).bind fun o5 =>
  (f_X10_workTotal (none, -1, -1) qv).bind fun o7 =>
  (f_X10_winchCount (none, -1, -1) qv).bind fun o9 =>
  jbN ((31 * ((31 * ((31 * ((31 * o1) + o3)) + o5)) + (o7.toInt32))) + o9) fun z11 =>
  (jbL (fun s => f_L_looks_L40 qv ov (s.1) (s.2.1) (s.2.2)) 31 (z11, 0, sv)).bind fun o40 =>
  (jbL (fun s => f_L_looks_L164 qv (o40.2.2) ov (s.1) (s.2)) 5 ((o40.1), 0)).bind fun o164 =>
  (jbL (fun s => f_L_looks_L188 qv (o40.2.2) (s.1) (s.2.1) (s.2.2)) 6 ((o164.1), 0, ov)).bind fun o188 =>
  some ((o188.1), (o40.2.2), (o188.2.2))
def f_L_areCellsRight_J606 (u1 : (Nat → Int32)) (qv : QV) (sv : SV) : Option (Int32 × SV) :=
  some (1, sv)
def f_L_areCellsRight_J575 (u1 : (Nat → Int32)) (qv : QV) (sv : SV) (x7 : Int32) (y0 : Int32) : Option (Int32 × SV) :=
  if y0 = 0 then
  (some (0, sv))
  else
  ((f_X10_cutTotal (none, -1, -1) qv).bind fun o71 =>
  if o71 = 0 then
  (f_L_areCellsRight_J606 u1 qv sv)
  else
  ((f_X10_liftedShare (none, -1, -1) qv).bind fun o73 => jbM o73 (fun _ => none) (fun o73 =>
  (f_X10_cutTotal (none, -1, -1) qv).bind fun o75 =>
  if (FP.fdiv (FP.i2f x7) (FP.i2f o75)) &&& 0x7fffffff ≤ 0x7f800000 then
  if (Op.cmpValue (FP.fcmp o73 (FP.fdiv (FP.i2f x7) (FP.i2f o75))) .l) = 0 then
  (f_L_areCellsRight_J606 u1 qv sv)
  else
  (some (0, sv))
  else none)))
def f_L_areCellsRight_J574 (u1 : (Nat → Int32)) (qv : QV) (sv : SV) (x7 : Int32) : Option (Int32 × SV) :=
  f_L_areCellsRight_J575 u1 qv sv x7 0
def f_L_areCellsRight_J519 (u1 : (Nat → Int32)) (qv : QV) (sv : SV) (x2 : Int32) (x3 : Int32) (x4 : Int32) (x7 : Int32) (y0 : Int32) : Option (Sum (Int32 × Int32) (Int32 × Int32)) :=
  some (.inl (y0, (x7 + 1)))
def f_L_areCellsRight_J518 (u1 : (Nat → Int32)) (qv : QV) (sv : SV) (x2 : Int32) (x3 : Int32) (x4 : Int32) (x7 : Int32) : Option (Sum (Int32 × Int32) (Int32 × Int32)) :=
  f_L_areCellsRight_J519 u1 qv sv x2 x3 x4 x7 0
def f_L_areCellsRight_L488 (u1 : (Nat → Int32)) (qv : QV) (sv : SV) (x2 : Int32) (x3 : Int32) (x4 : Int32) (x6 : Int32) (x7 : Int32) : Option (Sum (Int32 × Int32) (Int32 × Int32)) :=
  if 10 ≤ x7 then
  (some (.inr (x6, x7)))
  else
  (if x6 = 0 then
  (f_L_areCellsRight_J518 u1 qv sv x2 x3 x4 x7)
  else
  ((f_X10_cellsAt (none, -1, -1) qv x7).bind fun o68 => jbM o68 (fun _ => none) (fun o68 =>
  if jIn x7 10 then
  if o68 = (u1 x7.toNatClampNeg) then
  (f_L_areCellsRight_J519 u1 qv sv x2 x3 x4 x7 1)
  else
  (f_L_areCellsRight_J518 u1 qv sv x2 x3 x4 x7)
  else none)))
def f_L_areCellsRight_J477 (u1 : (Nat → Int32)) (qv : QV) (sv : SV) (x1 : Int32) (x2 : Int32) (x3 : Int32) (x4 : Int32) (x7 : Int32) (y0 : Int32) : Option (Sum (Int32 × Int32 × Int32 × Int32 × Int32 × (Nat → Int32) × SV) (Int32 × Int32 × Int32 × Int32 × Int32 × (Nat → Int32) × SV)) :=
  some (.inl (x2, x3, x4, y0, (x7 + 1), u1, sv))
def f_L_areCellsRight_J476 (u1 : (Nat → Int32)) (qv : QV) (sv : SV) (x1 : Int32) (x2 : Int32) (x3 : Int32) (x4 : Int32) (x7 : Int32) : Option (Sum (Int32 × Int32 × Int32 × Int32 × Int32 × (Nat → Int32) × SV) (Int32 × Int32 × Int32 × Int32 × Int32 × (Nat → Int32) × SV)) :=
  f_L_areCellsRight_J477 u1 qv sv x1 x2 x3 x4 x7 0
def f_L_areCellsRight_J469 (u1 : (Nat → Int32)) (qv : QV) (sv : SV) (x1 : Int32) (x2 : Int32) (x3 : Int32) (x4 : Int32) (x7 : Int32) (y0 : Int32) (y1 : Int32) : Option (Sum (Int32 × Int32 × Int32 × Int32 × Int32 × (Nat → Int32) × SV) (Int32 × Int32 × Int32 × Int32 × Int32 × (Nat → Int32) × SV)) :=
  if y1 = y0 then
  (f_L_areCellsRight_J477 u1 qv sv x1 x2 x3 x4 x7 1)
  else
  (f_L_areCellsRight_J476 u1 qv sv x1 x2 x3 x4 x7)
def f_L_areCellsRight_J441 (u1 : (Nat → Int32)) (qv : QV) (sv : SV) (x1 : Int32) (x2 : Int32) (x3 : Int32) (x4 : Int32) (x7 : Int32) (y0 : Int32) : Option (Sum (Int32 × Int32 × Int32 × Int32 × Int32 × (Nat → Int32) × SV) (Int32 × Int32 × Int32 × Int32 × Int32 × (Nat → Int32) × SV)) :=
  (f_L_ask qv sv 1 (x7 / 6) (x7 - x7 / 6 * 6) 0 0).bind fun o66 =>
  if (o66.1) = (-2004) then
  (f_L_areCellsRight_J469 u1 qv (o66.2) x1 x2 x3 x4 x7 1 y0)
  else
  (f_L_areCellsRight_J469 u1 qv (o66.2) x1 x2 x3 x4 x7 0 y0)
def f_L_areCellsRight_L269 (u1 : (Nat → Int32)) (qv : QV) (sv : SV) (x1 : Int32) (x2 : Int32) (x3 : Int32) (x4 : Int32) (x6 : Int32) (x7 : Int32) (x9 : Int32) (x10 : Int32) (x11 : Int32) (x12 : Int32) (x13 : Int32) : Option (Sum (Int32 × Int32) (Int32 × Int32)) :=
  if 30 ≤ x13 then
  (some (.inr (x12, x13)))
  else
  ((f_X10_height (none, -1, -1) qv (x13 / 6) (x13 - x13 / 6 * 6)).bind fun o59 => jbM o59 (fun _ => none) (fun o59 =>
  (f_X10_stepLimit (none, -1, -1) qv).bind fun o61 =>
  (f_L_far x7 x13).bind fun o63 =>
  jbN (x12 + (jMax 0 ((o59 - x11) - (o61 * o63)))) fun z65 =>
  some (.inl (z65, (x13 + 1)))))
def f_L_areCellsRight_J245 (u1 : (Nat → Int32)) (qv : QV) (sv : SV) (x1 : Int32) (x2 : Int32) (x3 : Int32) (x4 : Int32) (x6 : Int32) (x7 : Int32) (x8 : Int32) (x9 : Int32) (y0 : Int32) : Option (Sum (Int32 × Int32 × Int32 × Int32 × Int32 × (Nat → Int32) × SV) (Int32 × Int32 × Int32 × Int32 × Int32 × (Nat → Int32) × SV)) :=
  (f_L_told y0).bind fun o43 =>
  jbN (x3 + o43) fun z45 =>
  jbN (jMin x1 x8) fun z46 =>
  (jbL (fun s => f_L_areCellsRight_L269 u1 qv sv x1 x2 z45 x4 x6 x7 x9 y0 z46 (s.1) (s.2)) 5000 (0, 0)).bind fun o269 =>
  if x6 = 0 then
  (f_L_areCellsRight_J476 u1 qv sv x1 x2 z45 x4 x7)
  else
  ((f_X10_steepestStep (none, -1, -1) qv (x7 / 6) (x7 - x7 / 6 * 6)).bind fun o47 => jbM o47 (fun _ => none) (fun o47 =>
  if o47 = x9 then
  ((f_X10_stepLimit (none, -1, -1) qv).bind fun o49 =>
  if o49 < x9 then
  (f_L_areCellsRight_J476 u1 qv sv x1 x2 z45 x4 x7)
  else
  ((f_X10_canCut (none, -1, -1) qv (x7 / 6) (x7 - x7 / 6 * 6)).bind fun o51 => jbM o51 (fun _ => none) (fun o51 =>
  if o51 = y0 then
  ((f_L_ask qv sv 3 (x7 / 6) (x7 - x7 / 6 * 6) z46 0).bind fun o53 =>
  if (o53.1) = (o269.1) then
  ((f_L_ask qv (o53.2) 4 (x7 / 6) (x7 - x7 / 6 * 6) z46 0).bind fun o55 =>
  if (o55.1) = (o269.1) then
  ((f_X10_looseBlocks (none, -1, -1) qv (x7 / 6) (x7 - x7 / 6 * 6)).bind fun o57 => jbM o57 (fun _ => none) (fun o57 =>
  if o57 = 0 then
  (f_L_areCellsRight_J441 u1 qv (o55.2) x1 x2 z45 x4 x7 1)
  else
  (f_L_areCellsRight_J441 u1 qv (o55.2) x1 x2 z45 x4 x7 0)))
  else
  (f_L_areCellsRight_J476 u1 qv (o55.2) x1 x2 z45 x4 x7))
  else
  (f_L_areCellsRight_J476 u1 qv (o53.2) x1 x2 z45 x4 x7))
  else
  (f_L_areCellsRight_J476 u1 qv sv x1 x2 z45 x4 x7))))
  else
  (f_L_areCellsRight_J476 u1 qv sv x1 x2 z45 x4 x7)))
def f_L_areCellsRight_J244 (u1 : (Nat → Int32)) (qv : QV) (sv : SV) (x1 : Int32) (x2 : Int32) (x3 : Int32) (x4 : Int32) (x6 : Int32) (x7 : Int32) (x8 : Int32) (x9 : Int32) : Option (Sum (Int32 × Int32 × Int32 × Int32 × Int32 × (Nat → Int32) × SV) (Int32 × Int32 × Int32 × Int32 × Int32 × (Nat → Int32) × SV)) :=
  f_L_areCellsRight_J245 u1 qv sv x1 x2 x3 x4 x6 x7 x8 x9 0
def f_L_areCellsRight_L117 (qv : QV) (x1 : Int32) (x2 : Int32) (x3 : Int32) (x4 : Int32) (x6 : Int32) (x7 : Int32) (u1 : (Nat → Int32)) (sv : SV) : Option (Sum (Int32 × Int32 × Int32 × Int32 × Int32 × (Nat → Int32) × SV) (Int32 × Int32 × Int32 × Int32 × Int32 × (Nat → Int32) × SV)) :=
  if 30 ≤ x7 then
  (some (.inr (x2, x3, x4, x6, x7, u1, sv)))
  else
  ((f_X10_height (none, -1, -1) qv (x7 / 6) (x7 - x7 / 6 * 6)).bind fun o24 => jbM o24 (fun _ => none) (fun o24 =>
  (f_L_steepest qv x7 o24).bind fun o26 =>
  jbN (x2 + o24) fun z28 =>
  if jIn o24 10 then
  if jIn o24 10 then
  jbN (upd u1 o24.toNatClampNeg ((u1 o24.toNatClampNeg) + 1)) fun w31 =>
  (f_X10_looseBlocks (none, -1, -1) qv (x7 / 6) (x7 - x7 / 6 * 6)).bind fun o32 => jbM o32 (fun _ => none) (fun o32 =>
  jbN (x4 + o32) fun z34 =>
  (f_X10_isLedge (none, -1, -1) qv (x7 / 6) (x7 - x7 / 6 * 6)).bind fun o35 => jbM o35 (fun _ => none) (fun o35 =>
  if o35 = 0 then
  (if o24 ≤ 0 then
  (f_L_areCellsRight_J244 w31 qv sv x1 z28 x3 z34 x6 x7 o24 o26)
  else
  ((f_X10_looseBlocks (none, -1, -1) qv (x7 / 6) (x7 - x7 / 6 * 6)).bind fun o37 => jbM o37 (fun _ => none) (fun o37 =>
  if 3 ≤ o37 then
  (f_L_areCellsRight_J244 w31 qv sv x1 z28 x3 z34 x6 x7 o24 o26)
  else
  ((f_L_steepest qv x7 (o24 - 1)).bind fun o39 =>
  (f_X10_stepLimit (none, -1, -1) qv).bind fun o41 =>
  if o41 < o39 then
  (f_L_areCellsRight_J244 w31 qv sv x1 z28 x3 z34 x6 x7 o24 o26)
  else
  (f_L_areCellsRight_J245 w31 qv sv x1 z28 x3 z34 x6 x7 o24 o26 1)))))
  else
  (f_L_areCellsRight_J244 w31 qv sv x1 z28 x3 z34 x6 x7 o24 o26)))
  else none
  else none))
def f_L_areCellsRight_J112 (u1 : (Nat → Int32)) (qv : QV) (sv : SV) (x1 : Int32) (x2 : Int32) (x3 : Int32) (x4 : Int32) (y0 : Int32) : Option (Int32 × SV) :=
  (jbL (fun s => f_L_areCellsRight_L117 qv x1 (s.1) (s.2.1) (s.2.2.1) (s.2.2.2.1) (s.2.2.2.2.1) (s.2.2.2.2.2.1) (s.2.2.2.2.2.2)) 31 (x2, x3, x4, y0, 0, u1, sv)).bind fun o117 =>
  (jbL (fun s => f_L_areCellsRight_L488 (o117.2.2.2.2.2.1) qv (o117.2.2.2.2.2.2) (o117.1) (o117.2.1) (o117.2.2.1) (s.1) (s.2)) 5000 ((o117.2.2.2.1), 0)).bind fun o488 =>
  (f_X10_cutTotal (none, -1, -1) qv).bind fun o14 =>
  jbN (o14 - (o117.2.2.1)) fun z16 =>
  if (o488.1) = 0 then
  (f_L_areCellsRight_J574 (o117.2.2.2.2.2.1) qv (o117.2.2.2.2.2.2) z16)
  else
  ((f_X10_cuttableCells (none, -1, -1) qv).bind fun o17 =>
  if o17 = (o117.2.1) then
  ((f_X10_meanHeight (none, -1, -1) qv).bind fun o19 =>
  if (FP.ddiv (FP.i2d (o117.1)) (4629137466983448576 : UInt64)) &&& 0x7fffffffffffffff ≤ 0x7ff0000000000000 then
  if (Op.cmpValue (FP.dcmp o19 (FP.ddiv (FP.i2d (o117.1)) (4629137466983448576 : UInt64))) .l) = 0 then
  ((f_X10_isConsistent (none, -1, -1) qv (o117.2.2.2.2.2.2)).bind fun o22 =>
  if (o22.1) = 0 then
  (f_L_areCellsRight_J574 (o117.2.2.2.2.2.1) qv (o22.2) z16)
  else
  (f_L_areCellsRight_J575 (o117.2.2.2.2.2.1) qv (o22.2) z16 1))
  else
  (f_L_areCellsRight_J574 (o117.2.2.2.2.2.1) qv (o117.2.2.2.2.2.2) z16)
  else none)
  else
  (f_L_areCellsRight_J574 (o117.2.2.2.2.2.1) qv (o117.2.2.2.2.2.2) z16))
def f_L_areCellsRight_J111 (u1 : (Nat → Int32)) (qv : QV) (sv : SV) (x1 : Int32) (x2 : Int32) (x3 : Int32) (x4 : Int32) : Option (Int32 × SV) :=
  f_L_areCellsRight_J112 u1 qv sv x1 x2 x3 x4 0
def f_L_areCellsRight (qv : QV) (sv : SV) (a1 : Int32) : Option (Int32 × SV) :=
  jbN (fun _ => (0 : Int32)) fun w1 =>
  (f_L_ask qv sv 0 5 0 0 0).bind fun o2 =>
  if (o2.1) = (-2002) then
  ((f_L_ask qv (o2.2) 0 0 (-1) 0 0).bind fun o4 =>
  if (o4.1) = (-2002) then
  ((f_L_ask qv (o4.2) 2 10 0 0 0).bind fun o6 =>
  if (o6.1) = (-2003) then
  ((f_L_ask qv (o6.2) 3 0 0 10 0).bind fun o8 =>
  if (o8.1) = (-2003) then
  ((f_L_ask qv (o8.2) 4 0 6 0 0).bind fun o10 =>
  if (o10.1) = (-2002) then
  ((f_L_ask qv (o10.2) 8 4 0 0 0).bind fun o12 =>
  if (o12.1) = (-2003) then
  (f_L_areCellsRight_J112 w1 qv (o12.2) a1 0 0 0 1)
  else
  (f_L_areCellsRight_J111 w1 qv (o12.2) a1 0 0 0))
  else
  (f_L_areCellsRight_J111 w1 qv (o10.2) a1 0 0 0))
  else
  (f_L_areCellsRight_J111 w1 qv (o8.2) a1 0 0 0))
  else
  (f_L_areCellsRight_J111 w1 qv (o6.2) a1 0 0 0))
  else
  (f_L_areCellsRight_J111 w1 qv (o4.2) a1 0 0 0))
  else
  (f_L_areCellsRight_J111 w1 qv (o2.2) a1 0 0 0)
def f_L_areSeamsRight_J339 (u1 : (Nat → Int32)) (qv : QV) (sv : SV) (x2 : Int32) (x4 : Int32) (y0 : Int32) : Option (Sum (Int32 × Int32 × Int32 × SV) (Int32 × Int32 × Int32 × SV)) :=
  some (.inl (x2, y0, (x4 + 1), sv))
def f_L_areSeamsRight_J338 (u1 : (Nat → Int32)) (qv : QV) (sv : SV) (x2 : Int32) (x4 : Int32) : Option (Sum (Int32 × Int32 × Int32 × SV) (Int32 × Int32 × Int32 × SV)) :=
  f_L_areSeamsRight_J339 u1 qv sv x2 x4 0
def f_L_areSeamsRight_J287 (u1 : (Nat → Int32)) (qv : QV) (sv : SV) (x3 : Int32) (x4 : Int32) (x5 : Int32) (x6 : Int32) (y0 : Int32) (y1 : Int32) : Option (Sum (Int32 × Int32 × Int32 × SV) (Int32 × Int32 × Int32 × SV)) :=
  (f_L_told y0).bind fun o35 =>
  jbN (y1 + o35) fun z37 =>
  if x3 = 0 then
  (f_L_areSeamsRight_J338 u1 qv sv z37 x4)
  else
  ((f_X10_seamSize (none, -1, -1) qv sv (x4 / 6) (x4 - x4 / 6 * 6)).bind fun o38 => jbM o38 (fun _ => none) (fun o38 =>
  if (o38.1) = x5 then
  ((f_X10_seamVolume (none, -1, -1) qv (o38.2) (x4 / 6) (x4 - x4 / 6 * 6)).bind fun o40 => jbM o40 (fun _ => none) (fun o40 =>
  if (o40.1) = x6 then
  (f_L_areSeamsRight_J339 u1 qv (o40.2) z37 x4 1)
  else
  (f_L_areSeamsRight_J338 u1 qv (o40.2) z37 x4)))
  else
  (f_L_areSeamsRight_J338 u1 qv (o38.2) z37 x4)))
def f_L_areSeamsRight_J263 (u1 : (Nat → Int32)) (qv : QV) (sv : SV) (x2 : Int32) (x3 : Int32) (x4 : Int32) (x5 : Int32) (x7 : Int32) (y0 : Int32) (y1 : Int32) : Option (Sum (Int32 × Int32 × Int32) (Int32 × Int32 × Int32)) :=
  jbN (y1 + y0) fun z34 =>
  some (.inl (x5, z34, (x7 + 1)))
def f_L_areSeamsRight_J226 (u1 : (Nat → Int32)) (qv : QV) (sv : SV) (x2 : Int32) (x3 : Int32) (x4 : Int32) (x5 : Int32) (x6 : Int32) (x7 : Int32) (y0 : Int32) : Option (Sum (Int32 × Int32 × Int32) (Int32 × Int32 × Int32)) :=
  (f_L_told y0).bind fun o29 =>
  jbN (x5 + o29) fun z31 =>
  if y0 = 0 then
  (f_L_areSeamsRight_J263 u1 qv sv x2 x3 x4 z31 x7 0 x6)
  else
  ((f_X10_height (none, -1, -1) qv (x7 / 6) (x7 - x7 / 6 * 6)).bind fun o32 => jbM o32 (fun _ => none) (fun o32 =>
  f_L_areSeamsRight_J263 u1 qv sv x2 x3 x4 z31 x7 o32 x6))
def f_L_areSeamsRight_J225 (u1 : (Nat → Int32)) (qv : QV) (sv : SV) (x2 : Int32) (x3 : Int32) (x4 : Int32) (x5 : Int32) (x6 : Int32) (x7 : Int32) : Option (Sum (Int32 × Int32 × Int32) (Int32 × Int32 × Int32)) :=
  f_L_areSeamsRight_J226 u1 qv sv x2 x3 x4 x5 x6 x7 0
def f_L_areSeamsRight_L196 (u1 : (Nat → Int32)) (qv : QV) (sv : SV) (x2 : Int32) (x3 : Int32) (x4 : Int32) (x5 : Int32) (x6 : Int32) (x7 : Int32) : Option (Sum (Int32 × Int32 × Int32) (Int32 × Int32 × Int32)) :=
  if 30 ≤ x7 then
  (some (.inr (x5, x6, x7)))
  else
  (if jIn x4 30 then
  if (u1 x4.toNatClampNeg) < 0 then
  (f_L_areSeamsRight_J225 u1 qv sv x2 x3 x4 x5 x6 x7)
  else
  (if jIn x7 30 then
  if jIn x4 30 then
  if (u1 x7.toNatClampNeg) = (u1 x4.toNatClampNeg) then
  (f_L_areSeamsRight_J226 u1 qv sv x2 x3 x4 x5 x6 x7 1)
  else
  (f_L_areSeamsRight_J225 u1 qv sv x2 x3 x4 x5 x6 x7)
  else none
  else none)
  else none)
def f_L_areSeamsRight_L180 (u1 : (Nat → Int32)) (qv : QV) (x2 : Int32) (x3 : Int32) (x4 : Int32) (sv : SV) : Option (Sum (Int32 × Int32 × Int32 × SV) (Int32 × Int32 × Int32 × SV)) :=
  if 30 ≤ x4 then
  (some (.inr (x2, x3, x4, sv)))
  else
  ((jbL (fun s => f_L_areSeamsRight_L196 u1 qv sv x2 x3 x4 (s.1) (s.2.1) (s.2.2)) 5000 (0, 0, 0)).bind fun o196 =>
  if jIn x4 30 then
  if (u1 x4.toNatClampNeg) = x4 then
  (f_L_areSeamsRight_J287 u1 qv sv x3 x4 (o196.1) (o196.2.1) 1 x2)
  else
  (f_L_areSeamsRight_J287 u1 qv sv x3 x4 (o196.1) (o196.2.1) 0 x2)
  else none)
def f_L_areSeamsRight_J160 (u1 : (Nat → Int32)) (qv : QV) (sv : SV) (x2 : Int32) (x3 : Int32) (y0 : Int32) (y1 : Int32) : Option (Sum (Int32 × (Nat → Int32)) (Int32 × (Nat → Int32))) :=
  if jIn y1 30 then
  jbN (upd u1 y1.toNatClampNeg y0) fun w24 =>
  some (.inl ((x3 + 1), w24))
  else none
def f_L_areSeamsRight_J132 (u1 : (Nat → Int32)) (qv : QV) (sv : SV) (x2 : Int32) (x3 : Int32) (x4 : Int32) (x5 : Int32) (y0 : Int32) : Option (Sum (Int32 × (Nat → Int32)) (Int32 × (Nat → Int32))) :=
  if y0 = 0 then
  (if jIn x4 30 then
  f_L_areSeamsRight_J160 u1 qv sv x2 x3 (u1 x4.toNatClampNeg) x4
  else none)
  else
  (if jIn x4 30 then
  if jIn x5 30 then
  f_L_areSeamsRight_J160 u1 qv sv x2 x3 (jMin (u1 x4.toNatClampNeg) (u1 x5.toNatClampNeg)) x4
  else none
  else none)
def f_L_areSeamsRight_J131 (u1 : (Nat → Int32)) (qv : QV) (sv : SV) (x2 : Int32) (x3 : Int32) (x4 : Int32) (x5 : Int32) : Option (Sum (Int32 × (Nat → Int32)) (Int32 × (Nat → Int32))) :=
  f_L_areSeamsRight_J132 u1 qv sv x2 x3 x4 x5 0
def f_L_areSeamsRight_L52 (qv : QV) (sv : SV) (x2 : Int32) (x3 : Int32) (u1 : (Nat → Int32)) : Option (Sum (Int32 × (Nat → Int32)) (Int32 × (Nat → Int32))) :=
  if 900 ≤ x3 then
  (some (.inr (x3, u1)))
  else
  (jbN (x3 / 30) fun z10 =>
  jbN (x3 - x3 / 30 * 30) fun z11 =>
  (f_L_far z10 z11).bind fun o12 =>
  if o12 = 1 then
  (if jIn z10 30 then
  if (u1 z10.toNatClampNeg) < 0 then
  (f_L_areSeamsRight_J131 u1 qv sv x2 x3 z10 z11)
  else
  (if jIn z11 30 then
  if (u1 z11.toNatClampNeg) < 0 then
  (f_L_areSeamsRight_J131 u1 qv sv x2 x3 z10 z11)
  else
  ((f_X10_stone (none, -1, -1) qv (z10 / 6) (z10 - z10 / 6 * 6)).bind fun o16 => jbM o16 (fun _ => none) (fun o16 =>
  (f_X10_stone (none, -1, -1) qv (z11 / 6) (z11 - z11 / 6 * 6)).bind fun o18 => jbM o18 (fun _ => none) (fun o18 =>
  if o16 = o18 then
  (f_L_areSeamsRight_J132 u1 qv sv x2 x3 z10 z11 1)
  else
  (f_L_areSeamsRight_J131 u1 qv sv x2 x3 z10 z11))))
  else none)
  else none)
  else
  (f_L_areSeamsRight_J131 u1 qv sv x2 x3 z10 z11))
def f_L_areSeamsRight_L44 (qv : QV) (sv : SV) (x2 : Int32) (u1 : (Nat → Int32)) : Option (Sum (Int32 × (Nat → Int32)) (Int32 × (Nat → Int32))) :=
  if 30 ≤ x2 then
  (some (.inr (x2, u1)))
  else
  ((jbL (fun s => f_L_areSeamsRight_L52 qv sv x2 (s.1) (s.2)) 5000 (0, u1)).bind fun o52 =>
  some (.inl ((x2 + 1), (o52.2))))
def f_L_areSeamsRight_J35 (u1 : (Nat → Int32)) (qv : QV) (sv : SV) (x2 : Int32) (y0 : Int32) (y1 : Int32) : Option (Sum (Int32 × (Nat → Int32)) (Int32 × (Nat → Int32))) :=
  if jIn y1 30 then
  jbN (upd u1 y1.toNatClampNeg y0) fun w9 =>
  some (.inl ((x2 + 1), w9))
  else none
def f_L_areSeamsRight_L7 (qv : QV) (sv : SV) (x2 : Int32) (u1 : (Nat → Int32)) : Option (Sum (Int32 × (Nat → Int32)) (Int32 × (Nat → Int32))) :=
  if 30 ≤ x2 then
  (some (.inr (x2, u1)))
  else
  ((f_X10_height (none, -1, -1) qv (x2 / 6) (x2 - x2 / 6 * 6)).bind fun o6 => jbM o6 (fun _ => none) (fun o6 =>
  if o6 ≤ 0 then
  (f_L_areSeamsRight_J35 u1 qv sv x2 (-1) x2)
  else
  (f_L_areSeamsRight_J35 u1 qv sv x2 x2 x2)))
def f_L_areSeamsRight (qv : QV) (sv : SV) : Option (Int32 × SV) :=
  jbN (fun _ => (0 : Int32)) fun w1 =>
  (jbL (fun s => f_L_areSeamsRight_L7 qv sv (s.1) (s.2)) 5000 (0, w1)).bind fun o7 =>
  (jbL (fun s => f_L_areSeamsRight_L44 qv sv (s.1) (s.2)) 5000 (0, (o7.2))).bind fun o44 =>
  (jbL (fun s => f_L_areSeamsRight_L180 (o44.2) qv (s.1) (s.2.1) (s.2.2.1) (s.2.2.2)) 5000 (0, 1, 0, sv)).bind fun o180 =>
  if (o180.2.1) = 0 then
  (some (0, (o180.2.2.2)))
  else
  ((f_X10_seamCount (none, -1, -1) qv (o180.2.2.2)).bind fun o2 =>
  if (o2.1) = (o180.1) then
  ((f_X10_seamCountByMerging (none, -1, -1) qv (o2.2)).bind fun o4 =>
  if (o4.1) = (o180.1) then
  (some (1, (o4.2)))
  else
  (some (0, (o4.2))))
  else
  (some (0, (o2.2))))
def f_L_arePathsRight_J294 (u1 : (Nat → Int32)) (qv : QV) (sv : SV) (x1 : Int32) (x4 : Int32) (y0 : Int32) : Option (Sum (Int32 × Int32 × SV) (Int32 × Int32 × SV)) :=
  some (.inl (y0, (x4 + 1), sv))
def f_L_arePathsRight_J293 (u1 : (Nat → Int32)) (qv : QV) (sv : SV) (x1 : Int32) (x4 : Int32) : Option (Sum (Int32 × Int32 × SV) (Int32 × Int32 × SV)) :=
  f_L_arePathsRight_J294 u1 qv sv x1 x4 0
def f_L_arePathsRight_J286 (u1 : (Nat → Int32)) (qv : QV) (sv : SV) (x1 : Int32) (x4 : Int32) (y0 : Int32) (y1 : Int32) : Option (Sum (Int32 × Int32 × SV) (Int32 × Int32 × SV)) :=
  if y1 = y0 then
  (f_L_arePathsRight_J294 u1 qv sv x1 x4 1)
  else
  (f_L_arePathsRight_J293 u1 qv sv x1 x4)
def f_L_arePathsRight_L233 (u1 : (Nat → Int32)) (qv : QV) (x1 : Int32) (x3 : Int32) (x4 : Int32) (sv : SV) : Option (Sum (Int32 × Int32 × SV) (Int32 × Int32 × SV)) :=
  if 30 ≤ x4 then
  (some (.inr (x3, x4, sv)))
  else
  (if x3 = 0 then
  (f_L_arePathsRight_J293 u1 qv sv x1 x4)
  else
  ((f_L_ask qv sv 5 (x1 / 6) (x1 - x1 / 6 * 6) (x4 / 6) (x4 - x4 / 6 * 6)).bind fun o26 =>
  if jIn x4 30 then
  if (u1 x4.toNatClampNeg) ≤ 98 then
  (if jIn x4 30 then
  f_L_arePathsRight_J286 u1 qv (o26.2) x1 x4 (u1 x4.toNatClampNeg) (o26.1)
  else none)
  else
  (f_L_arePathsRight_J286 u1 qv (o26.2) x1 x4 (-2004) (o26.1))
  else none))
def f_L_arePathsRight_J229 (u1 : (Nat → Int32)) (qv : QV) (sv : SV) (x1 : Int32) (y0 : Int32) : Option (Int32 × SV) :=
  (jbL (fun s => f_L_arePathsRight_L233 u1 qv x1 (s.1) (s.2.1) (s.2.2)) 31 (y0, 0, sv)).bind fun o233 =>
  if vp_nar .boolean (o233.1) = (o233.1) then some ((o233.1), (o233.2.2)) else none
def f_L_arePathsRight_J228 (u1 : (Nat → Int32)) (qv : QV) (sv : SV) (x1 : Int32) : Option (Int32 × SV) :=
  f_L_arePathsRight_J229 u1 qv sv x1 0
def f_L_arePathsRight_J180 (u1 : (Nat → Int32)) (qv : QV) (sv : SV) (x1 : Int32) (x3 : Int32) (x4 : Int32) (y0 : Int32) (y1 : Int32) : Option (Sum (Int32 × (Nat → Int32)) (Int32 × (Nat → Int32))) :=
  if jIn y1 30 then
  jbN (upd u1 y1.toNatClampNeg y0) fun w24 =>
  some (.inl ((x4 + 1), w24))
  else none
def f_L_arePathsRight_J150 (u1 : (Nat → Int32)) (qv : QV) (sv : SV) (x1 : Int32) (x3 : Int32) (x4 : Int32) (x5 : Int32) (x6 : Int32) (y0 : Int32) : Option (Sum (Int32 × (Nat → Int32)) (Int32 × (Nat → Int32))) :=
  if y0 = 0 then
  (if jIn x6 30 then
  f_L_arePathsRight_J180 u1 qv sv x1 x3 x4 (u1 x6.toNatClampNeg) x6
  else none)
  else
  (if jIn x6 30 then
  if jIn x5 30 then
  f_L_arePathsRight_J180 u1 qv sv x1 x3 x4 (jMin (u1 x6.toNatClampNeg) ((u1 x5.toNatClampNeg) + 1)) x6
  else none
  else none)
def f_L_arePathsRight_J149 (u1 : (Nat → Int32)) (qv : QV) (sv : SV) (x1 : Int32) (x3 : Int32) (x4 : Int32) (x5 : Int32) (x6 : Int32) : Option (Sum (Int32 × (Nat → Int32)) (Int32 × (Nat → Int32))) :=
  f_L_arePathsRight_J150 u1 qv sv x1 x3 x4 x5 x6 0
def f_L_arePathsRight_L59 (qv : QV) (sv : SV) (x1 : Int32) (x3 : Int32) (x4 : Int32) (u1 : (Nat → Int32)) : Option (Sum (Int32 × (Nat → Int32)) (Int32 × (Nat → Int32))) :=
  if 900 ≤ x4 then
  (some (.inr (x4, u1)))
  else
  (jbN (x4 / 30) fun z10 =>
  jbN (x4 - x4 / 30 * 30) fun z11 =>
  (f_L_far z10 z11).bind fun o12 =>
  if o12 = 1 then
  ((f_X10_isLedge (none, -1, -1) qv (z11 / 6) (z11 - z11 / 6 * 6)).bind fun o14 => jbM o14 (fun _ => none) (fun o14 =>
  if o14 = 0 then
  ((f_X10_height (none, -1, -1) qv (z10 / 6) (z10 - z10 / 6 * 6)).bind fun o16 => jbM o16 (fun _ => none) (fun o16 =>
  (f_X10_height (none, -1, -1) qv (z11 / 6) (z11 - z11 / 6 * 6)).bind fun o18 => jbM o18 (fun _ => none) (fun o18 =>
  if 1 < (jAbs (o16 - o18)) then
  (f_L_arePathsRight_J149 u1 qv sv x1 x3 x4 z10 z11)
  else
  (f_L_arePathsRight_J150 u1 qv sv x1 x3 x4 z10 z11 1))))
  else
  (f_L_arePathsRight_J149 u1 qv sv x1 x3 x4 z10 z11)))
  else
  (f_L_arePathsRight_J149 u1 qv sv x1 x3 x4 z10 z11))
def f_L_arePathsRight_L50 (qv : QV) (sv : SV) (x1 : Int32) (x3 : Int32) (u1 : (Nat → Int32)) : Option (Sum (Int32 × (Nat → Int32)) (Int32 × (Nat → Int32))) :=
  if 30 ≤ x3 then
  (some (.inr (x3, u1)))
  else
  ((jbL (fun s => f_L_arePathsRight_L59 qv sv x1 x3 (s.1) (s.2)) 5000 (0, u1)).bind fun o59 =>
  some (.inl ((x3 + 1), (o59.2))))
def f_L_arePathsRight_J41 (u1 : (Nat → Int32)) (qv : QV) (sv : SV) (x1 : Int32) (x3 : Int32) (y0 : Int32) (y1 : Int32) : Option (Sum (Int32 × (Nat → Int32)) (Int32 × (Nat → Int32))) :=
  if jIn y1 30 then
  jbN (upd u1 y1.toNatClampNeg y0) fun w9 =>
  some (.inl ((x3 + 1), w9))
  else none
def f_L_arePathsRight_J39 (u1 : (Nat → Int32)) (qv : QV) (sv : SV) (x1 : Int32) (x3 : Int32) (y0 : Int32) : Option (Sum (Int32 × (Nat → Int32)) (Int32 × (Nat → Int32))) :=
  f_L_arePathsRight_J41 u1 qv sv x1 x3 99 y0
def f_L_arePathsRight_L7 (qv : QV) (sv : SV) (x1 : Int32) (x3 : Int32) (u1 : (Nat → Int32)) : Option (Sum (Int32 × (Nat → Int32)) (Int32 × (Nat → Int32))) :=
  if 30 ≤ x3 then
  (some (.inr (x3, u1)))
  else
  (if x3 = x1 then
  ((f_X10_isLedge (none, -1, -1) qv (x3 / 6) (x3 - x3 / 6 * 6)).bind fun o6 => jbM o6 (fun _ => none) (fun o6 =>
  if o6 = 0 then
  (f_L_arePathsRight_J41 u1 qv sv x1 x3 0 x3)
  else
  (f_L_arePathsRight_J39 u1 qv sv x1 x3 x3)))
  else
  (f_L_arePathsRight_J39 u1 qv sv x1 x3 x3))
def f_L_arePathsRight (qv : QV) (sv : SV) (a1 : Int32) : Option (Int32 × SV) :=
  jbN (fun _ => (0 : Int32)) fun w1 =>
  (jbL (fun s => f_L_arePathsRight_L7 qv sv a1 (s.1) (s.2)) 5000 (0, w1)).bind fun o7 =>
  (jbL (fun s => f_L_arePathsRight_L50 qv sv a1 (s.1) (s.2)) 5000 (0, (o7.2))).bind fun o50 =>
  (f_L_ask qv sv 5 0 0 5 0).bind fun o2 =>
  if (o2.1) = (-2002) then
  ((f_L_ask qv (o2.2) 5 0 6 0 0).bind fun o4 =>
  if (o4.1) = (-2002) then
  (f_L_arePathsRight_J229 (o50.2) qv (o4.2) a1 1)
  else
  (f_L_arePathsRight_J228 (o50.2) qv (o4.2) a1))
  else
  (f_L_arePathsRight_J228 (o50.2) qv (o2.2) a1)
def f_L_areWinchesRight_L315 (u1 : (Nat → Int32)) (qv : QV) (sv : SV) (ov : OV) (hv : HV) (svd : (Option QV)) (x3 : Int32) (x4 : Int32) (x2 : Int32) (x6 : Int32) : Option (Sum (Int32 × Int32) (Int32 × Int32)) :=
  if 4 ≤ x6 then
  (some (.inr (x2, x6)))
  else
  ((f_X10_inYard (none, -1, -1) qv x6).bind fun o41 => jbM o41 (fun _ => none) (fun o41 =>
  jbN (x2 + (o41 * (2 + x6))) fun z43 =>
  some (.inl (z43, (x6 + 1)))))
def f_L_areWinchesRight_J304 (u1 : (Nat → Int32)) (qv : QV) (sv : SV) (ov : OV) (hv : HV) (svd : (Option QV)) (x2 : Int32) (x3 : Int32) (x6 : Int32) (y0 : Int32) : Option (Sum (Int32 × Int32 × SV) (Int32 × Int32 × SV)) :=
  some (.inl (y0, (x6 + 1), sv))
def f_L_areWinchesRight_J303 (u1 : (Nat → Int32)) (qv : QV) (sv : SV) (ov : OV) (hv : HV) (svd : (Option QV)) (x2 : Int32) (x3 : Int32) (x6 : Int32) : Option (Sum (Int32 × Int32 × SV) (Int32 × Int32 × SV)) :=
  f_L_areWinchesRight_J304 u1 qv sv ov hv svd x2 x3 x6 0
def f_L_areWinchesRight_J299 (u1 : (Nat → Int32)) (qv : QV) (sv : SV) (ov : OV) (hv : HV) (svd : (Option QV)) (x2 : Int32) (x3 : Int32) (x6 : Int32) : Option (Sum (Int32 × Int32 × SV) (Int32 × Int32 × SV)) :=
  f_L_areWinchesRight_J304 u1 qv sv ov hv svd x2 x3 x6 1
def f_L_areWinchesRight_L229 (u1 : (Nat → Int32)) (qv : QV) (ov : OV) (hv : HV) (svd : (Option QV)) (x2 : Int32) (x3 : Int32) (x4 : Int32) (x6 : Int32) (sv : SV) : Option (Sum (Int32 × Int32 × SV) (Int32 × Int32 × SV)) :=
  if 30 ≤ x6 then
  (some (.inr (x4, x6, sv)))
  else
  ((f_L_ask qv sv 7 (x6 / 6) (x6 - x6 / 6 * 6) 0 0).bind fun o36 =>
  jbN (o36.1) fun z38 =>
  if x4 = 0 then
  (f_L_areWinchesRight_J303 u1 qv (o36.2) ov hv svd x2 x3 x6)
  else
  (if jIn x6 30 then
  if (u1 x6.toNatClampNeg) = 0 then
  (if z38 = (-2004) then
  (f_L_areWinchesRight_J299 u1 qv (o36.2) ov hv svd x2 x3 x6)
  else
  (f_L_areWinchesRight_J303 u1 qv (o36.2) ov hv svd x2 x3 x6))
  else
  (if z38 < 0 then
  (f_L_areWinchesRight_J303 u1 qv (o36.2) ov hv svd x2 x3 x6)
  else
  (if jIn x6 30 then
  if (((u1 x6.toNatClampNeg) >>> (z38 &&& 31)) - ((u1 x6.toNatClampNeg) >>> (z38 &&& 31)) / 2 * 2) = 1 then
  (f_L_areWinchesRight_J299 u1 qv (o36.2) ov hv svd x2 x3 x6)
  else
  (f_L_areWinchesRight_J303 u1 qv (o36.2) ov hv svd x2 x3 x6)
  else none))
  else none))
def f_L_areWinchesRight_J218 (u1 : (Nat → Int32)) (qv : QV) (sv : SV) (ov : OV) (hv : HV) (svd : (Option QV)) (x1 : Int32) (x2 : Int32) (x3 : Int32) (x6 : Int32) (y0 : Int32) : Option (Sum (Int32 × Int32 × (Nat → Int32) × QV × HV) (Int32 × Int32 × (Nat → Int32) × QV × HV)) :=
  some (.inl (y0, (x6 + 1), u1, qv, hv))
def f_L_areWinchesRight_J217 (u1 : (Nat → Int32)) (qv : QV) (sv : SV) (ov : OV) (hv : HV) (svd : (Option QV)) (x1 : Int32) (x2 : Int32) (x3 : Int32) (x6 : Int32) : Option (Sum (Int32 × Int32 × (Nat → Int32) × QV × HV) (Int32 × Int32 × (Nat → Int32) × QV × HV)) :=
  f_L_areWinchesRight_J218 u1 qv sv ov hv svd x1 x2 x3 x6 0
def f_L_areWinchesRight_J189 (u1 : (Nat → Int32)) (qv : QV) (sv : SV) (ov : OV) (hv : HV) (svd : (Option QV)) (x1 : Int32) (x2 : Int32) (x3 : Int32) (x6 : Int32) (x7 : Int32) (x8 : Int32) (y0 : Int32) : Option (Sum (Int32 × Int32 × Int32 × (Nat → Int32) × QV × HV) (Int32 × Int32 × Int32 × (Nat → Int32) × QV × HV)) :=
  some (.inl (y0, x7, (x8 + 1), u1, qv, hv))
def f_L_areWinchesRight_J188 (u1 : (Nat → Int32)) (qv : QV) (sv : SV) (ov : OV) (hv : HV) (svd : (Option QV)) (x1 : Int32) (x2 : Int32) (x3 : Int32) (x6 : Int32) (x7 : Int32) (x8 : Int32) : Option (Sum (Int32 × Int32 × Int32 × (Nat → Int32) × QV × HV) (Int32 × Int32 × Int32 × (Nat → Int32) × QV × HV)) :=
  f_L_areWinchesRight_J189 u1 qv sv ov hv svd x1 x2 x3 x6 x7 x8 0
def f_L_areWinchesRight_J162 (u1 : (Nat → Int32)) (qv : QV) (sv : SV) (ov : OV) (hv : HV) (svd : (Option QV)) (x1 : Int32) (x2 : Int32) (x3 : Int32) (x4 : Int32) (x6 : Int32) (x7 : Int32) (x8 : Int32) (x9 : Int32) (y0 : Int32) (y1 : Int32) (y2 : Int32) : Option (Sum (Int32 × Int32 × Int32 × (Nat → Int32) × QV × HV) (Int32 × Int32 × Int32 × (Nat → Int32) × QV × HV)) :=
  if jIn y2 30 then
  jbN (upd u1 y2.toNatClampNeg (y1 + y0)) fun w31 =>
  (f_X10_restore qv svd).bind fun o32 => jbM o32 (fun _ => none) (fun o32 =>
  if x4 = 0 then
  (f_L_areWinchesRight_J188 w31 o32 sv ov (hv.1, hv.2.1, 0) svd x1 x2 x3 x6 x7 x8)
  else
  ((f_X10_liftableCells (none, -1, -1) o32 x6).bind fun o34 => jbM o34 (fun _ => none) (fun o34 =>
  if x9 = o34 then
  (f_L_areWinchesRight_J189 w31 o32 sv ov (hv.1, hv.2.1, 0) svd x1 x2 x3 x6 x7 x8 1)
  else
  (f_L_areWinchesRight_J188 w31 o32 sv ov (hv.1, hv.2.1, 0) svd x1 x2 x3 x6 x7 x8))))
  else none
def f_L_areWinchesRight_J140 (u1 : (Nat → Int32)) (qv : QV) (sv : SV) (ov : OV) (hv : HV) (svd : (Option QV)) (x1 : Int32) (x2 : Int32) (x3 : Int32) (x4 : Int32) (x6 : Int32) (x8 : Int32) (x9 : Int32) (x10 : Int32) (y0 : Int32) (y1 : Int32) : Option (Sum (Int32 × Int32 × Int32 × (Nat → Int32) × QV × HV) (Int32 × Int32 × Int32 × (Nat → Int32) × QV × HV)) :=
  jbN (y1 + y0) fun z28 =>
  if jIn x8 30 then
  if x10 < 0 then
  (f_L_areWinchesRight_J162 u1 qv sv ov hv svd x1 x2 x3 x4 x6 z28 x8 x9 0 (u1 x8.toNatClampNeg) x8)
  else
  (f_L_areWinchesRight_J162 u1 qv sv ov hv svd x1 x2 x3 x4 x6 z28 x8 x9 ((1 : Int32) <<< (x6 &&& 31)) (u1 x8.toNatClampNeg) x8)
  else none
def f_L_areWinchesRight_L92 (sv : SV) (ov : OV) (svd : (Option QV)) (x1 : Int32) (x2 : Int32) (x3 : Int32) (x6 : Int32) (x4 : Int32) (x7 : Int32) (x8 : Int32) (u1 : (Nat → Int32)) (qv : QV) (hv : HV) : Option (Sum (Int32 × Int32 × Int32 × (Nat → Int32) × QV × HV) (Int32 × Int32 × Int32 × (Nat → Int32) × QV × HV)) :=
  if 30 ≤ x8 then
  (some (.inr (x4, x7, x8, u1, qv, hv)))
  else
  ((f_X10_liftableCells (none, -1, -1) qv x6).bind fun o22 => jbM o22 (fun _ => none) (fun o22 =>
  (f_L_deed qv hv 6 (x8 / 6) (x8 - x8 / 6 * 6) x6 0).bind fun o24 =>
  jbN (o24.1) fun z27 =>
  if z27 < 0 then
  (f_L_areWinchesRight_J140 u1 (o24.2.1) sv ov (o24.2.2) svd x1 x2 x3 x4 x6 x8 o22 z27 0 x7)
  else
  (f_L_areWinchesRight_J140 u1 (o24.2.1) sv ov (o24.2.2) svd x1 x2 x3 x4 x6 x8 o22 z27 1 x7)))
def f_L_areWinchesRight_L80 (sv : SV) (ov : OV) (svd : (Option QV)) (x1 : Int32) (x2 : Int32) (x3 : Int32) (x4 : Int32) (x6 : Int32) (u1 : (Nat → Int32)) (qv : QV) (hv : HV) : Option (Sum (Int32 × Int32 × (Nat → Int32) × QV × HV) (Int32 × Int32 × (Nat → Int32) × QV × HV)) :=
  if x1 ≤ x6 then
  (some (.inr (x4, x6, u1, qv, hv)))
  else
  ((jbL (fun s => f_L_areWinchesRight_L92 sv ov svd x1 x2 x3 x6 (s.1) (s.2.1) (s.2.2.1) (s.2.2.2.1) (s.2.2.2.2.1) (s.2.2.2.2.2)) 31 (x4, 0, 0, u1, qv, hv)).bind fun o92 =>
  if (o92.1) = 0 then
  (f_L_areWinchesRight_J217 (o92.2.2.2.1) (o92.2.2.2.2.1) sv ov (o92.2.2.2.2.2) svd x1 x2 x3 x6)
  else
  ((f_X10_liftableCells (none, -1, -1) (o92.2.2.2.2.1) x6).bind fun o20 => jbM o20 (fun _ => none) (fun o20 =>
  if o20 = (o92.2.1) then
  (f_L_areWinchesRight_J218 (o92.2.2.2.1) (o92.2.2.2.2.1) sv ov (o92.2.2.2.2.2) svd x1 x2 x3 x6 1)
  else
  (f_L_areWinchesRight_J217 (o92.2.2.2.1) (o92.2.2.2.2.1) sv ov (o92.2.2.2.2.2) svd x1 x2 x3 x6))))
def f_L_areWinchesRight_J65 (qv : QV) (sv : SV) (ov : OV) (hv : HV) (svd : (Option QV)) (x1 : Int32) (x2 : Int32) (x3 : Int32) (y0 : Int32) : Option (Int32 × QV × SV × OV × HV × (Option QV)) :=
  (f_X10_save qv svd).bind fun o12 =>
  jbN (fun _ => (0 : Int32)) fun w15 =>
  (jbL (fun s => f_L_areWinchesRight_L80 sv ov (some o12) x1 x2 x3 (s.1) (s.2.1) (s.2.2.1) (s.2.2.2.1) (s.2.2.2.2)) 4 (y0, 0, w15, qv, hv)).bind fun o80 =>
  (jbL (fun s => f_L_areWinchesRight_L229 (o80.2.2.1) (o80.2.2.2.1) ov (o80.2.2.2.2) (some o12) x2 x3 (s.1) (s.2.1) (s.2.2)) 31 ((o80.1), 0, sv)).bind fun o229 =>
  (jbL (fun s => f_L_areWinchesRight_L315 (o80.2.2.1) (o80.2.2.2.1) (o229.2.2) ov (o80.2.2.2.2) (some o12) x3 (o229.1) (s.1) (s.2)) 5000 (x2, 0)).bind fun o315 =>
  if (o229.1) = 0 then
  (some (0, (o80.2.2.2.1), (o229.2.2), ov, (o80.2.2.2.2), (some o12)))
  else
  ((f_X10_yardWeight (none, -1, -1) (o80.2.2.2.1)).bind fun o16 =>
  if o16 = (o315.1) then
  ((f_L_looks (o80.2.2.2.1) (o229.2.2) ov).bind fun o18 =>
  if (o18.1) = x3 then
  (some (1, (o80.2.2.2.1), (o18.2.1), (o18.2.2), (o80.2.2.2.2), (some o12)))
  else
  (some (0, (o80.2.2.2.1), (o18.2.1), (o18.2.2), (o80.2.2.2.2), (some o12))))
  else
  (some (0, (o80.2.2.2.1), (o229.2.2), ov, (o80.2.2.2.2), (some o12))))
def f_L_areWinchesRight_J64 (qv : QV) (sv : SV) (ov : OV) (hv : HV) (svd : (Option QV)) (x1 : Int32) (x2 : Int32) (x3 : Int32) : Option (Int32 × QV × SV × OV × HV × (Option QV)) :=
  f_L_areWinchesRight_J65 qv sv ov hv svd x1 x2 x3 0
def f_L_areWinchesRight (qv : QV) (sv : SV) (ov : OV) (hv : HV) (svd : (Option QV)) : Option (Int32 × QV × SV × OV × HV × (Option QV)) :=
  (f_X10_winchCount (none, -1, -1) qv).bind fun o1 =>
  (f_L_looks qv sv ov).bind fun o3 =>
  jbN (o3.1) fun z5 =>
  (f_L_ask qv (o3.2.1) 6 o1 0 0 0).bind fun o6 =>
  if (o6.1) = (-2002) then
  ((f_L_ask qv (o6.2) 6 (-1) 0 0 0).bind fun o8 =>
  if (o8.1) = (-2002) then
  ((f_L_ask qv (o8.2) 7 5 0 0 0).bind fun o10 =>
  if (o10.1) = (-2002) then
  (f_L_areWinchesRight_J65 qv (o10.2) (o3.2.2) hv svd o1 0 z5 1)
  else
  (f_L_areWinchesRight_J64 qv (o10.2) (o3.2.2) hv svd o1 0 z5))
  else
  (f_L_areWinchesRight_J64 qv (o8.2) (o3.2.2) hv svd o1 0 z5))
  else
  (f_L_areWinchesRight_J64 qv (o6.2) (o3.2.2) hv svd o1 0 z5)
def f_L_areLinesRight_J252 (qv : QV) (ov : OV) (x2 : Int32) (x3 : Int32) (y0 : Int32) : Option (Sum (Int32 × Int32 × Int32 × OV) (Int32 × Int32 × Int32 × OV)) :=
  some (.inl (y0, x2, (x3 + 1), ov))
def f_L_areLinesRight_J251 (qv : QV) (ov : OV) (x2 : Int32) (x3 : Int32) : Option (Sum (Int32 × Int32 × Int32 × OV) (Int32 × Int32 × Int32 × OV)) :=
  f_L_areLinesRight_J252 qv ov x2 x3 0
def f_L_areLinesRight_J223 (qv : QV) (ov : OV) (x2 : Int32) (x3 : Int32) (x4 : Int32) (x5 : Int32) (x6 : Int32) (x8 : Int32) (y0 : Int32) : Option (Sum (Int32 × Int32 × Int32) (Int32 × Int32 × Int32)) :=
  some (.inl (y0, x5, (x8 + 1)))
def f_L_areLinesRight_L188 (qv : QV) (ov : OV) (x2 : Int32) (x3 : Int32) (x4 : Int32) (x6 : Int32) (x1 : Int32) (x5 : Int32) (x8 : Int32) : Option (Sum (Int32 × Int32 × Int32) (Int32 × Int32 × Int32)) :=
  if x1 = 0 then
  (some (.inr (x1, x5, x8)))
  else
  ((f_X10_looseBlocks (none, -1, -1) qv x3 x6).bind fun o28 => jbM o28 (fun _ => none) (fun o28 =>
  if o28 ≤ x8 then
  (some (.inr (x1, x5, x8)))
  else
  ((f_X10_outputAt (none, -1, -1) ov x5).bind fun o30 => jbM o30 (fun _ => none) (fun o30 =>
  if o30 = 46 then
  (f_L_areLinesRight_J223 qv ov x2 x3 x4 (x5 + 1) x6 x8 1)
  else
  (f_L_areLinesRight_J223 qv ov x2 x3 x4 (x5 + 1) x6 x8 0)))))
def f_L_areLinesRight_J165 (qv : QV) (ov : OV) (x1 : Int32) (x2 : Int32) (x3 : Int32) (x4 : Int32) (x5 : Int32) (x6 : Int32) (y0 : Int32) : Option (Sum (Int32 × Int32 × Int32 × Int32) (Int32 × Int32 × Int32 × Int32)) :=
  (f_L_told y0).bind fun o22 =>
  jbN (x2 + o22) fun z24 =>
  (f_L_told y0).bind fun o25 =>
  jbN (x5 + o25) fun z27 =>
  (jbL (fun s => f_L_areLinesRight_L188 qv ov z24 x3 x4 x6 (s.1) (s.2.1) (s.2.2)) 5000 (x1, z27, 0)).bind fun o188 =>
  some (.inl ((o188.1), z24, (o188.2.1), (x6 + 1)))
def f_L_areLinesRight_J164 (qv : QV) (ov : OV) (x1 : Int32) (x2 : Int32) (x3 : Int32) (x4 : Int32) (x5 : Int32) (x6 : Int32) : Option (Sum (Int32 × Int32 × Int32 × Int32) (Int32 × Int32 × Int32 × Int32)) :=
  f_L_areLinesRight_J165 qv ov x1 x2 x3 x4 x5 x6 0
def f_L_areLinesRight_J137 (qv : QV) (ov : OV) (x2 : Int32) (x3 : Int32) (x4 : Int32) (x5 : Int32) (x6 : Int32) (y0 : Int32) : Option (Sum (Int32 × Int32 × Int32 × Int32) (Int32 × Int32 × Int32 × Int32)) :=
  if y0 = 0 then
  (f_L_areLinesRight_J164 qv ov y0 x2 x3 x4 x5 x6)
  else
  (if x4 ≤ x5 then
  (f_L_areLinesRight_J164 qv ov y0 x2 x3 x4 x5 x6)
  else
  ((f_X10_outputAt (none, -1, -1) ov x5).bind fun o20 => jbM o20 (fun _ => none) (fun o20 =>
  if o20 = 94 then
  (f_L_areLinesRight_J165 qv ov y0 x2 x3 x4 x5 x6 1)
  else
  (f_L_areLinesRight_J164 qv ov y0 x2 x3 x4 x5 x6))))
def f_L_areLinesRight_J136 (qv : QV) (ov : OV) (x2 : Int32) (x3 : Int32) (x4 : Int32) (x5 : Int32) (x6 : Int32) : Option (Sum (Int32 × Int32 × Int32 × Int32) (Int32 × Int32 × Int32 × Int32)) :=
  f_L_areLinesRight_J137 qv ov x2 x3 x4 x5 x6 0
def f_L_areLinesRight_J132 (qv : QV) (ov : OV) (x2 : Int32) (x3 : Int32) (x4 : Int32) (x5 : Int32) (x6 : Int32) : Option (Sum (Int32 × Int32 × Int32 × Int32) (Int32 × Int32 × Int32 × Int32)) :=
  f_L_areLinesRight_J137 qv ov x2 x3 x4 x5 x6 1
def f_L_areLinesRight_J103 (qv : QV) (ov : OV) (x2 : Int32) (x3 : Int32) (x4 : Int32) (x5 : Int32) (x6 : Int32) (y0 : Int32) : Option (Sum (Int32 × Int32 × Int32 × Int32) (Int32 × Int32 × Int32 × Int32)) :=
  if y0 = 0 then
  (f_L_areLinesRight_J136 qv ov x2 x3 x4 x5 x6)
  else
  ((f_X10_isLedge (none, -1, -1) qv x3 x6).bind fun o16 => jbM o16 (fun _ => none) (fun o16 =>
  if o16 = 0 then
  (f_L_areLinesRight_J132 qv ov x2 x3 x4 x5 x6)
  else
  ((f_X10_outputAt (none, -1, -1) ov x5).bind fun o18 => jbM o18 (fun _ => none) (fun o18 =>
  if o18 = 61 then
  (f_L_areLinesRight_J132 qv ov x2 x3 x4 (x5 + 1) x6)
  else
  (f_L_areLinesRight_J136 qv ov x2 x3 x4 (x5 + 1) x6)))))
def f_L_areLinesRight_J102 (qv : QV) (ov : OV) (x2 : Int32) (x3 : Int32) (x4 : Int32) (x5 : Int32) (x6 : Int32) : Option (Sum (Int32 × Int32 × Int32 × Int32) (Int32 × Int32 × Int32 × Int32)) :=
  f_L_areLinesRight_J103 qv ov x2 x3 x4 x5 x6 0
def f_L_areLinesRight_J54 (qv : QV) (ov : OV) (x2 : Int32) (x3 : Int32) (x4 : Int32) (x5 : Int32) (x6 : Int32) : Option (Sum (Int32 × Int32 × Int32 × Int32) (Int32 × Int32 × Int32 × Int32)) :=
  (f_X10_outputAt (none, -1, -1) ov x5).bind fun o8 => jbM o8 (fun _ => none) (fun o8 =>
  (f_X10_height (none, -1, -1) qv x3 x6).bind fun o10 => jbM o10 (fun _ => none) (fun o10 =>
  if o8 = (48 + o10) then
  ((f_X10_outputAt (none, -1, -1) ov (x5 + 1)).bind fun o12 => jbM o12 (fun _ => none) (fun o12 =>
  (f_X10_stone (none, -1, -1) qv x3 x6).bind fun o14 => jbM o14 (fun _ => none) (fun o14 =>
  if o12 = (97 + o14) then
  (f_L_areLinesRight_J103 qv ov x2 x3 x4 ((x5 + 1) + 1) x6 1)
  else
  (f_L_areLinesRight_J102 qv ov x2 x3 x4 ((x5 + 1) + 1) x6))))
  else
  (f_L_areLinesRight_J102 qv ov x2 x3 x4 (x5 + 1) x6)))
def f_L_areLinesRight_L24 (qv : QV) (ov : OV) (x3 : Int32) (x4 : Int32) (x1 : Int32) (x2 : Int32) (x5 : Int32) (x6 : Int32) : Option (Sum (Int32 × Int32 × Int32 × Int32) (Int32 × Int32 × Int32 × Int32)) :=
  if 6 ≤ x6 then
  (some (.inr (x1, x2, x5, x6)))
  else
  (if x1 = 0 then
  (some (.inr (x1, x2, x5, x6)))
  else
  (if x6 = 0 then
  (f_L_areLinesRight_J54 qv ov x2 x3 x4 x5 x6)
  else
  ((f_X10_outputAt (none, -1, -1) ov x5).bind fun o6 => jbM o6 (fun _ => none) (fun o6 =>
  if o6 = 32 then
  (f_L_areLinesRight_J54 qv ov x2 x3 x4 (x5 + 1) x6)
  else
  (f_L_areLinesRight_J102 qv ov x2 x3 x4 (x5 + 1) x6)))))
def f_L_areLinesRight_L6 (qv : QV) (x1 : Int32) (x2 : Int32) (x3 : Int32) (ov : OV) : Option (Sum (Int32 × Int32 × Int32 × OV) (Int32 × Int32 × Int32 × OV)) :=
  if 5 ≤ x3 then
  (some (.inr (x1, x2, x3, ov)))
  else
  ((f_X10_writeRow (none, -1, -1) qv ov x3).bind fun o3 => jbM o3 (fun _ => none) (fun o3 =>
  jbN (o3.1) fun z5 =>
  (jbL (fun s => f_L_areLinesRight_L24 qv (o3.2) x3 z5 (s.1) (s.2.1) (s.2.2.1) (s.2.2.2)) 5000 (x1, x2, 0, 0)).bind fun o24 =>
  if (o24.1) = 0 then
  (f_L_areLinesRight_J251 qv (o3.2) (o24.2.1) x3)
  else
  (if (o24.2.2.1) = z5 then
  (f_L_areLinesRight_J252 qv (o3.2) (o24.2.1) x3 1)
  else
  (f_L_areLinesRight_J251 qv (o3.2) (o24.2.1) x3))))
def f_L_areLinesRight (qv : QV) (ov : OV) : Option (Int32 × OV) :=
  (jbL (fun s => f_L_areLinesRight_L6 qv (s.1) (s.2.1) (s.2.2.1) (s.2.2.2)) 5000 (1, 0, 0, ov)).bind fun o6 =>
  if (o6.1) = 0 then
  (some (0, (o6.2.2.2)))
  else
  ((f_X10_winchCount (none, -1, -1) qv).bind fun o1 =>
  if (o6.2.1) = o1 then
  (some (1, (o6.2.2.2)))
  else
  (some (0, (o6.2.2.2))))
def f_L_lay_L233 (g : GG) (x2 : Int32) (x3 : Int32) (qv : QV) (hv : HV) : Option (Sum (Int32 × Int32 × QV × HV) (Int32 × Int32 × QV × HV)) :=
  (f_L_pick g 3 20).bind fun o49 =>
  if o49 ≤ x3 then
  (some (.inr (x2, x3, qv, hv)))
  else
  ((f_L_pick g (231 + x3) 5).bind fun o51 =>
  (f_L_pick g (251 + x3) 6).bind fun o53 =>
  (f_L_pick g (271 + x3) 3).bind fun o55 =>
  (f_L_deed qv hv 6 o51 o53 o55 0).bind fun o57 =>
  jbN (x2 + (o57.1)) fun z60 =>
  some (.inl (z60, (x3 + 1), (o57.2.1), (o57.2.2))))
def f_L_lay_L118 (g : GG) (x2 : Int32) (x3 : Int32) (qv : QV) (hv : HV) : Option (Sum (Int32 × Int32 × QV × HV) (Int32 × Int32 × QV × HV)) :=
  (f_L_pick g 2 5).bind fun o25 =>
  if o25 ≤ x3 then
  (some (.inr (x2, x3, qv, hv)))
  else
  ((f_L_pick g (191 + x3) 5).bind fun o27 =>
  (f_L_pick g (196 + x3) 6).bind fun o29 =>
  (f_L_pick g (201 + x3) 8).bind fun o31 =>
  (f_L_pick g (206 + x3) 6).bind fun o33 =>
  (f_L_deed qv hv 5 o27 o29 (2 + o31) (1 + o33)).bind fun o35 =>
  jbN (x2 + (o35.1)) fun z38 =>
  (f_L_pick g (211 + x3) 2).bind fun o39 =>
  (f_L_pick g (216 + x3) 5).bind fun o41 =>
  (f_L_pick g (221 + x3) 6).bind fun o43 =>
  (f_L_deed (o35.2.1) (o35.2.2) 3 o41 o43 0 0).bind fun o45 =>
  jbN (z38 + (o39 * (o45.1))) fun z48 =>
  some (.inl (z48, (x3 + 1), (o45.2.1), (o45.2.2))))
def f_L_lay_L69 (g : GG) (x2 : Int32) (x3 : Int32) (qv : QV) (hv : HV) : Option (Sum (Int32 × Int32 × QV × HV) (Int32 × Int32 × QV × HV)) :=
  (f_L_pick g 1 40).bind fun o15 =>
  if o15 ≤ x3 then
  (some (.inr (x2, x3, qv, hv)))
  else
  ((f_L_pick g (91 + x3) 5).bind fun o17 =>
  (f_L_pick g (141 + x3) 6).bind fun o19 =>
  (f_L_deed qv hv 1 o17 o19 0 0).bind fun o21 =>
  jbN (x2 + (o21.1)) fun z24 =>
  some (.inl (z24, (x3 + 1), (o21.2.1), (o21.2.2))))
def f_L_lay_L19 (g : GG) (x2 : Int32) (x3 : Int32) (qv : QV) (hv : HV) : Option (Sum (Int32 × Int32 × QV × HV) (Int32 × Int32 × QV × HV)) :=
  if 30 ≤ x3 then
  (some (.inr (x2, x3, qv, hv)))
  else
  ((f_L_pick g (11 + x3) 2).bind fun o7 =>
  (f_L_pick g (51 + x3) 4).bind fun o9 =>
  (f_L_deed qv hv 0 (x3 / 6) (x3 - x3 / 6 * 6) o9 0).bind fun o11 =>
  jbN (x2 + (o7 * (o11.1))) fun z14 =>
  some (.inl (z14, (x3 + 1), (o11.2.1), (o11.2.2))))
def f_L_lay (g : GG) (qv : QV) (hv : HV) : Option (QV × HV) :=
  (f_L_pick g 0 4).bind fun o1 =>
  (f_L_deed qv hv 4 (1 + o1) 0 0 0).bind fun o3 =>
  jbN (o3.1) fun z6 =>
  (jbL (fun s => f_L_lay_L19 g (s.1) (s.2.1) (s.2.2.1) (s.2.2.2)) 31 (z6, 0, (o3.2.1), (o3.2.2))).bind fun o19 =>
  (jbL (fun s => f_L_lay_L69 g (s.1) (s.2.1) (s.2.2.1) (s.2.2.2)) 41 ((o19.1), 0, (o19.2.2.1), (o19.2.2.2))).bind fun o69 =>
  (jbL (fun s => f_L_lay_L118 g (s.1) (s.2.1) (s.2.2.1) (s.2.2.2)) 6 ((o69.1), 0, (o69.2.2.1), (o69.2.2.2))).bind fun o118 =>
  (jbL (fun s => f_L_lay_L233 g (s.1) (s.2.1) (s.2.2.1) (s.2.2.2)) 21 ((o118.1), 0, (o118.2.2.1), (o118.2.2.2))).bind fun o233 =>
  some ((o233.2.2.1), (o233.2.2.2))
def f_L_any (g : GG) (qv : QV) (hv : HV) (a2 : Int32) : Option (Int32 × QV × HV) :=
  (f_L_pick g (a2 + 1) 5).bind fun o1 =>
  (f_L_pick g (a2 + 2) 6).bind fun o3 =>
  (f_L_pick g a2 24).bind fun o5 =>
  if o5 = 0 then
  ((f_L_pick g (a2 + 3) 4).bind fun o8 =>
  (f_L_deed qv hv 0 o1 o3 o8 0).bind fun o10 =>
  some ((o10.1), (o10.2.1), (o10.2.2)))
  else
  if o5 = 1 then
  ((f_L_pick g (a2 + 3) 4).bind fun o14 =>
  (f_L_deed qv hv 0 o1 o3 o14 0).bind fun o16 =>
  some ((o16.1), (o16.2.1), (o16.2.2)))
  else
  if o5 = 2 then
  ((f_L_deed qv hv 3 o1 o3 0 0).bind fun o20 =>
  some ((o20.1), (o20.2.1), (o20.2.2)))
  else
  if o5 = 3 then
  ((f_L_deed qv hv 3 o1 o3 0 0).bind fun o24 =>
  some ((o24.1), (o24.2.1), (o24.2.2)))
  else
  if o5 = 4 then
  ((f_L_deed qv hv 3 o1 o3 0 0).bind fun o28 =>
  some ((o28.1), (o28.2.1), (o28.2.2)))
  else
  if o5 = 5 then
  ((f_L_pick g (a2 + 3) 4).bind fun o32 =>
  (f_L_deed qv hv 4 (1 + o32) 0 0 0).bind fun o34 =>
  some ((o34.1), (o34.2.1), (o34.2.2)))
  else
  if o5 = 6 then
  ((f_L_pick g (a2 + 3) 4).bind fun o38 =>
  (f_L_deed qv hv 4 (1 + o38) 0 0 0).bind fun o40 =>
  some ((o40.1), (o40.2.1), (o40.2.2)))
  else
  if o5 = 7 then
  ((f_L_pick g (a2 + 3) 8).bind fun o44 =>
  (f_L_pick g (a2 + 4) 6).bind fun o46 =>
  (f_L_deed qv hv 5 o1 o3 (2 + o44) (1 + o46)).bind fun o48 =>
  some ((o48.1), (o48.2.1), (o48.2.2)))
  else
  if o5 = 8 then
  ((f_X10_winchCount (none, -1, -1) qv).bind fun o52 =>
  (f_L_pick g (a2 + 3) (jMax 1 o52)).bind fun o54 =>
  (f_L_deed qv hv 6 o1 o3 o54 0).bind fun o56 =>
  some ((o56.1), (o56.2.1), (o56.2.2)))
  else
  if o5 = 9 then
  ((f_X10_winchCount (none, -1, -1) qv).bind fun o60 =>
  (f_L_pick g (a2 + 3) (jMax 1 o60)).bind fun o62 =>
  (f_L_deed qv hv 6 o1 o3 o62 0).bind fun o64 =>
  some ((o64.1), (o64.2.1), (o64.2.2)))
  else
  if o5 = 10 then
  ((f_X10_winchCount (none, -1, -1) qv).bind fun o68 =>
  (f_L_pick g (a2 + 3) (jMax 1 o68)).bind fun o70 =>
  (f_L_deed qv hv 6 o1 o3 o70 0).bind fun o72 =>
  some ((o72.1), (o72.2.1), (o72.2.2)))
  else
  if o5 = 11 then
  ((f_X10_winchCount (none, -1, -1) qv).bind fun o76 =>
  (f_L_pick g (a2 + 3) (jMax 1 o76)).bind fun o78 =>
  (f_L_deed qv hv 6 o1 o3 o78 0).bind fun o80 =>
  some ((o80.1), (o80.2.1), (o80.2.2)))
  else
  if o5 = 12 then
  ((f_L_pick g (a2 + 3) 4).bind fun o84 =>
  (f_L_pick g (a2 + 4) 3).bind fun o86 =>
  (f_L_deed qv hv 7 o84 (1 + o86) 0 0).bind fun o88 =>
  some ((o88.1), (o88.2.1), (o88.2.2)))
  else
  if o5 = 13 then
  ((f_L_pick g (a2 + 3) 4).bind fun o92 =>
  (f_L_pick g (a2 + 4) 3).bind fun o94 =>
  (f_L_deed qv hv 7 o92 (1 + o94) 0 0).bind fun o96 =>
  some ((o96.1), (o96.2.1), (o96.2.2)))
  else
  if o5 = 14 then
  ((f_L_deed qv hv 2 o1 o3 0 0).bind fun o100 =>
  some ((o100.1), (o100.2.1), (o100.2.2)))
  else
  if o5 = 15 then
  ((f_L_deed qv hv 2 o1 o3 0 0).bind fun o104 =>
  some ((o104.1), (o104.2.1), (o104.2.2)))
  else
  if o5 = 16 then
  ((f_L_deed qv hv 2 o1 o3 0 0).bind fun o108 =>
  some ((o108.1), (o108.2.1), (o108.2.2)))
  else
  ((f_L_deed qv hv 1 o1 o3 0 0).bind fun o111 =>
  some ((o111.1), (o111.2.1), (o111.2.2)))
