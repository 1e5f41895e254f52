def Sys : Type := Int32 × Int32 × QV × QV × SV × HV × PV × OV × Option QV × MV
def Sys.ep (S : Sys) : Int32 := Prod.fst S
def Sys.fc (S : Sys) : Int32 := Prod.fst (Prod.snd S)
def Sys.qv (S : Sys) : QV := Prod.fst (Prod.snd (Prod.snd S))
def Sys.bv (S : Sys) : QV := Prod.fst (Prod.snd (Prod.snd (Prod.snd S)))
def Sys.sv (S : Sys) : SV := Prod.fst (Prod.snd (Prod.snd (Prod.snd (Prod.snd S))))
def Sys.hv (S : Sys) : HV := Prod.fst (Prod.snd (Prod.snd (Prod.snd (Prod.snd (Prod.snd S)))))
def Sys.pv (S : Sys) : PV := Prod.fst (Prod.snd (Prod.snd (Prod.snd (Prod.snd (Prod.snd (Prod.snd S))))))
def Sys.ov (S : Sys) : OV := Prod.fst (Prod.snd (Prod.snd (Prod.snd (Prod.snd (Prod.snd (Prod.snd (Prod.snd S)))))))
def Sys.svd (S : Sys) : Option QV := Prod.fst (Prod.snd (Prod.snd (Prod.snd (Prod.snd (Prod.snd (Prod.snd (Prod.snd (Prod.snd S))))))))
def Sys.mv (S : Sys) : MV := Prod.snd (Prod.snd (Prod.snd (Prod.snd (Prod.snd (Prod.snd (Prod.snd (Prod.snd (Prod.snd S))))))))
def mkS (ep : Int32) (fc : Int32) (qv : QV) (bv : QV) (sv : SV) (hv : HV) (pv : PV) (ov : OV) (svd : Option QV) (mv : MV) : Sys := (ep, fc, qv, bv, sv, hv, pv, ov, svd, mv)
abbrev LR : Type := Sys × (Nat → Int64) × (Nat → UInt64)
def lawOp_0 (S : Sys) (a1 a2 a3 a4 : Int32) (ol : Nat → Int64) (od : Nat → UInt64) : Option LR :=
  (f_L_setStone (none, S.ep, S.fc) S.qv S.hv a1 a2 a3 ol).bind fun k1 =>
  (f_X11_setStone S.mv a1 a2 a3).bind fun o3 =>
  (f_X11_thrown (o3.2)).bind fun o5 =>
  if o5 = (k1.1) then (if (k1.1) = 0 then (if ((k1.2.1) (0 : Int32).toNatClampNeg) = (o3.1).toInt64 then some (mkS S.ep S.fc (k1.2.2.1) S.bv S.sv (k1.2.2.2) S.pv S.ov S.svd (o3.2), (k1.2.1), od) else none) else some (mkS S.ep S.fc (k1.2.2.1) S.bv S.sv (k1.2.2.2) S.pv S.ov S.svd (o3.2), (k1.2.1), od)) else none
def lawOp_1 (S : Sys) (a1 a2 a3 a4 : Int32) (ol : Nat → Int64) (od : Nat → UInt64) : Option LR :=
  (f_L_cut (none, S.ep, S.fc) S.qv S.hv a1 a2 ol).bind fun k1 =>
  (f_X11_cut S.mv a1 a2).bind fun o3 =>
  (f_X11_thrown (o3.2)).bind fun o5 =>
  if o5 = (k1.1) then (if (k1.1) = 0 then (if ((k1.2.1) (0 : Int32).toNatClampNeg) = (o3.1).toInt64 then some (mkS S.ep S.fc (k1.2.2.1) S.bv S.sv (k1.2.2.2) S.pv S.ov S.svd (o3.2), (k1.2.1), od) else none) else some (mkS S.ep S.fc (k1.2.2.1) S.bv S.sv (k1.2.2.2) S.pv S.ov S.svd (o3.2), (k1.2.1), od)) else none
def lawOp_2 (S : Sys) (a1 a2 a3 a4 : Int32) (ol : Nat → Int64) (od : Nat → UInt64) : Option LR :=
  (f_L_fill (none, S.ep, S.fc) S.qv S.hv a1 a2 ol).bind fun k1 =>
  (f_X11_fill S.mv a1 a2).bind fun o3 =>
  (f_X11_thrown (o3.2)).bind fun o5 =>
  if o5 = (k1.1) then (if (k1.1) = 0 then (if ((k1.2.1) (0 : Int32).toNatClampNeg) = (o3.1).toInt64 then some (mkS S.ep S.fc (k1.2.2.1) S.bv S.sv (k1.2.2.2) S.pv S.ov S.svd (o3.2), (k1.2.1), od) else none) else some (mkS S.ep S.fc (k1.2.2.1) S.bv S.sv (k1.2.2.2) S.pv S.ov S.svd (o3.2), (k1.2.1), od)) else none
def lawOp_3 (S : Sys) (a1 a2 a3 a4 : Int32) (ol : Nat → Int64) (od : Nat → UInt64) : Option LR :=
  (f_L_toggleLedge (none, S.ep, S.fc) S.qv S.hv a1 a2 ol).bind fun k1 =>
  (f_X11_toggleLedge S.mv a1 a2).bind fun o3 =>
  (f_X11_thrown (o3.2)).bind fun o5 =>
  if o5 = (k1.1) then (if (k1.1) = 0 then (if ((k1.2.1) (0 : Int32).toNatClampNeg) = if (o3.1) = 0 then 0 else 1 then some (mkS S.ep S.fc (k1.2.2.1) S.bv S.sv (k1.2.2.2) S.pv S.ov S.svd (o3.2), (k1.2.1), od) else none) else some (mkS S.ep S.fc (k1.2.2.1) S.bv S.sv (k1.2.2.2) S.pv S.ov S.svd (o3.2), (k1.2.1), od)) else none
def lawOp_4 (S : Sys) (a1 a2 a3 a4 : Int32) (ol : Nat → Int64) (od : Nat → UInt64) : Option LR :=
  (f_L_setStepLimit (none, S.ep, S.fc) S.qv S.hv a1 ol).bind fun k1 =>
  (f_X11_setStepLimit S.mv a1).bind fun o3 =>
  (f_X11_thrown (o3.2)).bind fun o5 =>
  if o5 = (k1.1) then (if (k1.1) = 0 then (if ((k1.2.1) (0 : Int32).toNatClampNeg) = (o3.1).toInt64 then some (mkS S.ep S.fc (k1.2.2.1) S.bv S.sv (k1.2.2.2) S.pv S.ov S.svd (o3.2), (k1.2.1), od) else none) else some (mkS S.ep S.fc (k1.2.2.1) S.bv S.sv (k1.2.2.2) S.pv S.ov S.svd (o3.2), (k1.2.1), od)) else none
def lawOp_5 (S : Sys) (a1 a2 a3 a4 : Int32) (ol : Nat → Int64) (od : Nat → UInt64) : Option LR :=
  (f_L_addWinch (none, S.ep, S.fc) S.qv S.hv a1 a2 a3 a4 ol).bind fun k1 =>
  (f_X11_addWinch S.mv a1 a2 a3 a4).bind fun o3 =>
  (f_X11_thrown (o3.2)).bind fun o5 =>
  if o5 = (k1.1) then (if (k1.1) = 0 then (if ((k1.2.1) (0 : Int32).toNatClampNeg) = (o3.1).toInt64 then some (mkS S.ep S.fc (k1.2.2.1) S.bv S.sv (k1.2.2.2) S.pv S.ov S.svd (o3.2), (k1.2.1), od) else none) else some (mkS S.ep S.fc (k1.2.2.1) S.bv S.sv (k1.2.2.2) S.pv S.ov S.svd (o3.2), (k1.2.1), od)) else none
def lawOp_6 (S : Sys) (a1 a2 a3 a4 : Int32) (ol : Nat → Int64) (od : Nat → UInt64) : Option LR :=
  (f_L_lift (none, S.ep, S.fc) S.qv S.hv a1 a2 a3 ol).bind fun k1 =>
  (f_X11_lift S.mv a1 a2 a3).bind fun o3 =>
  (f_X11_thrown (o3.2)).bind fun o5 =>
  if o5 = (k1.1) then (if (k1.1) = 0 then (if ((k1.2.1) (0 : Int32).toNatClampNeg) = (o3.1).toInt64 then some (mkS S.ep S.fc (k1.2.2.1) S.bv S.sv (k1.2.2.2) S.pv S.ov S.svd (o3.2), (k1.2.1), od) else none) else some (mkS S.ep S.fc (k1.2.2.1) S.bv S.sv (k1.2.2.2) S.pv S.ov S.svd (o3.2), (k1.2.1), od)) else none
def lawOp_7 (S : Sys) (a1 a2 a3 a4 : Int32) (ol : Nat → Int64) (od : Nat → UInt64) : Option LR :=
  (f_L_crush (none, S.ep, S.fc) S.qv S.hv a1 a2 ol).bind fun k1 =>
  (f_X11_crush S.mv a1 a2).bind fun o3 =>
  (f_X11_thrown (o3.2)).bind fun o5 =>
  if o5 = (k1.1) then (if (k1.1) = 0 then (if ((k1.2.1) (0 : Int32).toNatClampNeg) = (o3.1).toInt64 then some (mkS S.ep S.fc (k1.2.2.1) S.bv S.sv (k1.2.2.2) S.pv S.ov S.svd (o3.2), (k1.2.1), od) else none) else some (mkS S.ep S.fc (k1.2.2.1) S.bv S.sv (k1.2.2.2) S.pv S.ov S.svd (o3.2), (k1.2.1), od)) else none
def lawOp_8 (S : Sys) (a1 a2 a3 a4 : Int32) (ol : Nat → Int64) (od : Nat → UInt64) : Option LR :=
  (f_L_height (none, S.ep, S.fc) S.qv a1 a2 ol).bind fun k1 =>
  (f_X11_height S.mv a1 a2).bind fun o3 =>
  (f_X11_thrown (o3.2)).bind fun o5 =>
  if o5 = (k1.1) then (if (k1.1) = 0 then (if ((k1.2) (0 : Int32).toNatClampNeg) = (o3.1).toInt64 then some (mkS S.ep S.fc S.qv S.bv S.sv S.hv S.pv S.ov S.svd (o3.2), (k1.2), od) else none) else some (mkS S.ep S.fc S.qv S.bv S.sv S.hv S.pv S.ov S.svd (o3.2), (k1.2), od)) else none
def lawOp_9 (S : Sys) (a1 a2 a3 a4 : Int32) (ol : Nat → Int64) (od : Nat → UInt64) : Option LR :=
  (f_L_stone (none, S.ep, S.fc) S.qv a1 a2 ol).bind fun k1 =>
  (f_X11_stone S.mv a1 a2).bind fun o3 =>
  (f_X11_thrown (o3.2)).bind fun o5 =>
  if o5 = (k1.1) then (if (k1.1) = 0 then (if ((k1.2) (0 : Int32).toNatClampNeg) = (o3.1).toInt64 then some (mkS S.ep S.fc S.qv S.bv S.sv S.hv S.pv S.ov S.svd (o3.2), (k1.2), od) else none) else some (mkS S.ep S.fc S.qv S.bv S.sv S.hv S.pv S.ov S.svd (o3.2), (k1.2), od)) else none
def lawOp_10 (S : Sys) (a1 a2 a3 a4 : Int32) (ol : Nat → Int64) (od : Nat → UInt64) : Option LR :=
  (f_L_isLedge (none, S.ep, S.fc) S.qv a1 a2 ol).bind fun k1 =>
  (f_X11_isLedge S.mv a1 a2).bind fun o3 =>
  (f_X11_thrown (o3.2)).bind fun o5 =>
  if o5 = (k1.1) then (if (k1.1) = 0 then (if ((k1.2) (0 : Int32).toNatClampNeg) = if (o3.1) = 0 then 0 else 1 then some (mkS S.ep S.fc S.qv S.bv S.sv S.hv S.pv S.ov S.svd (o3.2), (k1.2), od) else none) else some (mkS S.ep S.fc S.qv S.bv S.sv S.hv S.pv S.ov S.svd (o3.2), (k1.2), od)) else none
def lawOp_11 (S : Sys) (a1 a2 a3 a4 : Int32) (ol : Nat → Int64) (od : Nat → UInt64) : Option LR :=
  (f_L_looseBlocks (none, S.ep, S.fc) S.qv a1 a2 ol).bind fun k1 =>
  (f_X11_looseBlocks S.mv a1 a2).bind fun o3 =>
  (f_X11_thrown (o3.2)).bind fun o5 =>
  if o5 = (k1.1) then (if (k1.1) = 0 then (if ((k1.2) (0 : Int32).toNatClampNeg) = (o3.1).toInt64 then some (mkS S.ep S.fc S.qv S.bv S.sv S.hv S.pv S.ov S.svd (o3.2), (k1.2), od) else none) else some (mkS S.ep S.fc S.qv S.bv S.sv S.hv S.pv S.ov S.svd (o3.2), (k1.2), od)) else none
def lawOp_12 (S : Sys) (a1 a2 a3 a4 : Int32) (ol : Nat → Int64) (od : Nat → UInt64) : Option LR :=
  (f_L_topBlock (none, S.ep, S.fc) S.qv a1 a2 ol).bind fun k1 =>
  (f_X11_topBlock S.mv a1 a2).bind fun o3 =>
  (f_X11_thrown (o3.2)).bind fun o5 =>
  if o5 = (k1.1) then (if (k1.1) = 0 then (if ((k1.2) (0 : Int32).toNatClampNeg) = (o3.1).toInt64 then some (mkS S.ep S.fc S.qv S.bv S.sv S.hv S.pv S.ov S.svd (o3.2), (k1.2), od) else none) else some (mkS S.ep S.fc S.qv S.bv S.sv S.hv S.pv S.ov S.svd (o3.2), (k1.2), od)) else none
def lawOp_13 (S : Sys) (a1 a2 a3 a4 : Int32) (ol : Nat → Int64) (od : Nat → UInt64) : Option LR :=
  (f_L_steepestStep (none, S.ep, S.fc) S.qv a1 a2 ol).bind fun k1 =>
  (f_X11_steepestStep S.mv a1 a2).bind fun o3 =>
  (f_X11_thrown (o3.2)).bind fun o5 =>
  if o5 = (k1.1) then (if (k1.1) = 0 then (if ((k1.2) (0 : Int32).toNatClampNeg) = (o3.1).toInt64 then some (mkS S.ep S.fc S.qv S.bv S.sv S.hv S.pv S.ov S.svd (o3.2), (k1.2), od) else none) else some (mkS S.ep S.fc S.qv S.bv S.sv S.hv S.pv S.ov S.svd (o3.2), (k1.2), od)) else none
def lawOp_14 (S : Sys) (a1 a2 a3 a4 : Int32) (ol : Nat → Int64) (od : Nat → UInt64) : Option LR :=
  (f_L_canCut (none, S.ep, S.fc) S.qv a1 a2 ol).bind fun k1 =>
  (f_X11_canCut S.mv a1 a2).bind fun o3 =>
  (f_X11_thrown (o3.2)).bind fun o5 =>
  if o5 = (k1.1) then (if (k1.1) = 0 then (if ((k1.2) (0 : Int32).toNatClampNeg) = if (o3.1) = 0 then 0 else 1 then some (mkS S.ep S.fc S.qv S.bv S.sv S.hv S.pv S.ov S.svd (o3.2), (k1.2), od) else none) else some (mkS S.ep S.fc S.qv S.bv S.sv S.hv S.pv S.ov S.svd (o3.2), (k1.2), od)) else none
def lawOp_15 (S : Sys) (a1 a2 a3 a4 : Int32) (ol : Nat → Int64) (od : Nat → UInt64) : Option LR :=
  (f_X10_cuttableCells (none, S.ep, S.fc) S.qv).bind fun o2 =>
  (f_X11_cuttableCells S.mv).bind fun o4 =>
  if o2 = (o4.1) then some (mkS S.ep S.fc S.qv S.bv S.sv S.hv S.pv S.ov S.svd (o4.2), ol, od) else none
def lawOp_16 (S : Sys) (a1 a2 a3 a4 : Int32) (ol : Nat → Int64) (od : Nat → UInt64) : Option LR :=
  (f_L_cellsAt (none, S.ep, S.fc) S.qv a1 ol).bind fun k1 =>
  (f_X11_cellsAt S.mv a1).bind fun o3 =>
  (f_X11_thrown (o3.2)).bind fun o5 =>
  if o5 = (k1.1) then (if (k1.1) = 0 then (if ((k1.2) (0 : Int32).toNatClampNeg) = (o3.1).toInt64 then some (mkS S.ep S.fc S.qv S.bv S.sv S.hv S.pv S.ov S.svd (o3.2), (k1.2), od) else none) else some (mkS S.ep S.fc S.qv S.bv S.sv S.hv S.pv S.ov S.svd (o3.2), (k1.2), od)) else none
def lawOp_17 (S : Sys) (a1 a2 a3 a4 : Int32) (ol : Nat → Int64) (od : Nat → UInt64) : Option LR :=
  (f_L_cutsToLower (none, S.ep, S.fc) S.qv a1 a2 a3 ol).bind fun k1 =>
  (f_X11_cutsToLower S.mv a1 a2 a3).bind fun o3 =>
  (f_X11_thrown (o3.2)).bind fun o5 =>
  if o5 = (k1.1) then (if (k1.1) = 0 then (if ((k1.2) (0 : Int32).toNatClampNeg) = (o3.1).toInt64 then some (mkS S.ep S.fc S.qv S.bv S.sv S.hv S.pv S.ov S.svd (o3.2), (k1.2), od) else none) else some (mkS S.ep S.fc S.qv S.bv S.sv S.hv S.pv S.ov S.svd (o3.2), (k1.2), od)) else none
def lawOp_18 (S : Sys) (a1 a2 a3 a4 : Int32) (ol : Nat → Int64) (od : Nat → UInt64) : Option LR :=
  (f_L_cutsToLowerBySpreading (none, S.ep, S.fc) S.qv S.sv a1 a2 a3 ol).bind fun k1 =>
  (f_X11_cutsToLowerBySpreading S.mv a1 a2 a3).bind fun o3 =>
  (f_X11_thrown (o3.2)).bind fun o5 =>
  if o5 = (k1.1) then (if (k1.1) = 0 then (if ((k1.2.1) (0 : Int32).toNatClampNeg) = (o3.1).toInt64 then some (mkS S.ep S.fc S.qv S.bv (k1.2.2) S.hv S.pv S.ov S.svd (o3.2), (k1.2.1), od) else none) else some (mkS S.ep S.fc S.qv S.bv (k1.2.2) S.hv S.pv S.ov S.svd (o3.2), (k1.2.1), od)) else none
def lawOp_19 (S : Sys) (a1 a2 a3 a4 : Int32) (ol : Nat → Int64) (od : Nat → UInt64) : Option LR :=
  (f_L_seamSize (none, S.ep, S.fc) S.qv S.sv a1 a2 ol).bind fun k1 =>
  (f_X11_seamSize S.mv a1 a2).bind fun o3 =>
  (f_X11_thrown (o3.2)).bind fun o5 =>
  if o5 = (k1.1) then (if (k1.1) = 0 then (if ((k1.2.1) (0 : Int32).toNatClampNeg) = (o3.1).toInt64 then some (mkS S.ep S.fc S.qv S.bv (k1.2.2) S.hv S.pv S.ov S.svd (o3.2), (k1.2.1), od) else none) else some (mkS S.ep S.fc S.qv S.bv (k1.2.2) S.hv S.pv S.ov S.svd (o3.2), (k1.2.1), od)) else none
def lawOp_20 (S : Sys) (a1 a2 a3 a4 : Int32) (ol : Nat → Int64) (od : Nat → UInt64) : Option LR :=
  (f_L_seamVolume (none, S.ep, S.fc) S.qv S.sv a1 a2 ol).bind fun k1 =>
  (f_X11_seamVolume S.mv a1 a2).bind fun o3 =>
  (f_X11_thrown (o3.2)).bind fun o5 =>
  if o5 = (k1.1) then (if (k1.1) = 0 then (if ((k1.2.1) (0 : Int32).toNatClampNeg) = (o3.1).toInt64 then some (mkS S.ep S.fc S.qv S.bv (k1.2.2) S.hv S.pv S.ov S.svd (o3.2), (k1.2.1), od) else none) else some (mkS S.ep S.fc S.qv S.bv (k1.2.2) S.hv S.pv S.ov S.svd (o3.2), (k1.2.1), od)) else none
def lawOp_21 (S : Sys) (a1 a2 a3 a4 : Int32) (ol : Nat → Int64) (od : Nat → UInt64) : Option LR :=
  (f_X10_seamCount (none, S.ep, S.fc) S.qv S.sv).bind fun o2 =>
  (f_X11_seamCount S.mv).bind fun o4 =>
  if (o2.1) = (o4.1) then some (mkS S.ep S.fc S.qv S.bv (o2.2) S.hv S.pv S.ov S.svd (o4.2), ol, od) else none
def lawOp_22 (S : Sys) (a1 a2 a3 a4 : Int32) (ol : Nat → Int64) (od : Nat → UInt64) : Option LR :=
  (f_X10_seamCountByMerging (none, S.ep, S.fc) S.qv S.sv).bind fun o2 =>
  (f_X11_seamCountByMerging S.mv).bind fun o4 =>
  if (o2.1) = (o4.1) then some (mkS S.ep S.fc S.qv S.bv (o2.2) S.hv S.pv S.ov S.svd (o4.2), ol, od) else none
def lawOp_23 (S : Sys) (a1 a2 a3 a4 : Int32) (ol : Nat → Int64) (od : Nat → UInt64) : Option LR :=
  (f_L_footpath (none, S.ep, S.fc) S.qv S.sv a1 a2 a3 a4 ol).bind fun k1 =>
  (f_X11_footpath S.mv a1 a2 a3 a4).bind fun o3 =>
  (f_X11_thrown (o3.2)).bind fun o5 =>
  if o5 = (k1.1) then (if (k1.1) = 0 then (if ((k1.2.1) (0 : Int32).toNatClampNeg) = (o3.1).toInt64 then some (mkS S.ep S.fc S.qv S.bv (k1.2.2) S.hv S.pv S.ov S.svd (o3.2), (k1.2.1), od) else none) else some (mkS S.ep S.fc S.qv S.bv (k1.2.2) S.hv S.pv S.ov S.svd (o3.2), (k1.2.1), od)) else none
def lawOp_24 (S : Sys) (a1 a2 a3 a4 : Int32) (ol : Nat → Int64) (od : Nat → UInt64) : Option LR :=
  (f_X10_winchCount (none, S.ep, S.fc) S.qv).bind fun o2 =>
  (f_X11_winchCount S.mv).bind fun o4 =>
  if o2 = (o4.1) then some (mkS S.ep S.fc S.qv S.bv S.sv S.hv S.pv S.ov S.svd (o4.2), ol, od) else none
def lawOp_25 (S : Sys) (a1 a2 a3 a4 : Int32) (ol : Nat → Int64) (od : Nat → UInt64) : Option LR :=
  (f_L_liftableCells (none, S.ep, S.fc) S.qv a1 ol).bind fun k1 =>
  (f_X11_liftableCells S.mv a1).bind fun o3 =>
  (f_X11_thrown (o3.2)).bind fun o5 =>
  if o5 = (k1.1) then (if (k1.1) = 0 then (if ((k1.2) (0 : Int32).toNatClampNeg) = (o3.1).toInt64 then some (mkS S.ep S.fc S.qv S.bv S.sv S.hv S.pv S.ov S.svd (o3.2), (k1.2), od) else none) else some (mkS S.ep S.fc S.qv S.bv S.sv S.hv S.pv S.ov S.svd (o3.2), (k1.2), od)) else none
def lawOp_26 (S : Sys) (a1 a2 a3 a4 : Int32) (ol : Nat → Int64) (od : Nat → UInt64) : Option LR :=
  (f_L_bestWinch (none, S.ep, S.fc) S.qv a1 a2 ol).bind fun k1 =>
  (f_X11_bestWinch S.mv a1 a2).bind fun o3 =>
  (f_X11_thrown (o3.2)).bind fun o5 =>
  if o5 = (k1.1) then (if (k1.1) = 0 then (if ((k1.2) (0 : Int32).toNatClampNeg) = (o3.1).toInt64 then some (mkS S.ep S.fc S.qv S.bv S.sv S.hv S.pv S.ov S.svd (o3.2), (k1.2), od) else none) else some (mkS S.ep S.fc S.qv S.bv S.sv S.hv S.pv S.ov S.svd (o3.2), (k1.2), od)) else none
def lawOp_27 (S : Sys) (a1 a2 a3 a4 : Int32) (ol : Nat → Int64) (od : Nat → UInt64) : Option LR :=
  (f_L_inYard (none, S.ep, S.fc) S.qv a1 ol).bind fun k1 =>
  (f_X11_inYard S.mv a1).bind fun o3 =>
  (f_X11_thrown (o3.2)).bind fun o5 =>
  if o5 = (k1.1) then (if (k1.1) = 0 then (if ((k1.2) (0 : Int32).toNatClampNeg) = (o3.1).toInt64 then some (mkS S.ep S.fc S.qv S.bv S.sv S.hv S.pv S.ov S.svd (o3.2), (k1.2), od) else none) else some (mkS S.ep S.fc S.qv S.bv S.sv S.hv S.pv S.ov S.svd (o3.2), (k1.2), od)) else none
def lawOp_28 (S : Sys) (a1 a2 a3 a4 : Int32) (ol : Nat → Int64) (od : Nat → UInt64) : Option LR :=
  (f_X10_yardWeight (none, S.ep, S.fc) S.qv).bind fun o2 =>
  (f_X11_yardWeight S.mv).bind fun o4 =>
  if o2 = (o4.1) then some (mkS S.ep S.fc S.qv S.bv S.sv S.hv S.pv S.ov S.svd (o4.2), ol, od) else none
def lawOp_29 (S : Sys) (a1 a2 a3 a4 : Int32) (ol : Nat → Int64) (od : Nat → UInt64) : Option LR :=
  (f_X10_rubble (none, S.ep, S.fc) S.qv).bind fun o2 =>
  (f_X11_rubble S.mv).bind fun o4 =>
  if o2 = (o4.1) then some (mkS S.ep S.fc S.qv S.bv S.sv S.hv S.pv S.ov S.svd (o4.2), ol, od) else none
def lawOp_30 (S : Sys) (a1 a2 a3 a4 : Int32) (ol : Nat → Int64) (od : Nat → UInt64) : Option LR :=
  (f_X10_stepLimit (none, S.ep, S.fc) S.qv).bind fun o2 =>
  (f_X11_stepLimit S.mv).bind fun o4 =>
  if o2 = (o4.1) then some (mkS S.ep S.fc S.qv S.bv S.sv S.hv S.pv S.ov S.svd (o4.2), ol, od) else none
def lawOp_31 (S : Sys) (a1 a2 a3 a4 : Int32) (ol : Nat → Int64) (od : Nat → UInt64) : Option LR :=
  (f_X10_cutTotal (none, S.ep, S.fc) S.qv).bind fun o2 =>
  (f_X11_cutTotal S.mv).bind fun o4 =>
  if o2 = (o4.1) then some (mkS S.ep S.fc S.qv S.bv S.sv S.hv S.pv S.ov S.svd (o4.2), ol, od) else none
def lawOp_32 (S : Sys) (a1 a2 a3 a4 : Int32) (ol : Nat → Int64) (od : Nat → UInt64) : Option LR :=
  (f_X10_workTotal (none, S.ep, S.fc) S.qv).bind fun o2 =>
  (f_X11_workTotal S.mv).bind fun o4 =>
  if o2 = (o4.1) then some (mkS S.ep S.fc S.qv S.bv S.sv S.hv S.pv S.ov S.svd (o4.2), ol, od) else none
def lawOp_33 (S : Sys) (a1 a2 a3 a4 : Int32) (ol : Nat → Int64) (od : Nat → UInt64) : Option LR :=
  (f_X10_meanHeight (none, S.ep, S.fc) S.qv).bind fun o2 =>
  (f_X11_meanHeight S.mv).bind fun o4 =>
  if FP.dcmp o2 (o4.1) = some .eq then some (mkS S.ep S.fc S.qv S.bv S.sv S.hv S.pv S.ov S.svd (o4.2), ol, od) else none
def lawOp_34 (S : Sys) (a1 a2 a3 a4 : Int32) (ol : Nat → Int64) (od : Nat → UInt64) : Option LR :=
  (f_L_liftedShare (none, S.ep, S.fc) S.qv  od).bind fun k1 =>
  (f_X11_liftedShare S.mv).bind fun o3 =>
  (f_X11_thrown (o3.2)).bind fun o5 =>
  if o5 = (k1.1) then (if (k1.1) = 0 then (if FP.f2d (o3.1) &&& 0x7fffffffffffffff ≤ 0x7ff0000000000000 ∧ FP.dcmp ((k1.2) (0 : Int32).toNatClampNeg) (FP.f2d (o3.1)) = some .eq then some (mkS S.ep S.fc S.qv S.bv S.sv S.hv S.pv S.ov S.svd (o3.2), ol, (k1.2)) else none) else some (mkS S.ep S.fc S.qv S.bv S.sv S.hv S.pv S.ov S.svd (o3.2), ol, (k1.2))) else none
def lawOp_35 (S : Sys) (a1 a2 a3 a4 : Int32) (ol : Nat → Int64) (od : Nat → UInt64) : Option LR :=
  (f_X10_isConsistent (none, S.ep, S.fc) S.qv S.sv).bind fun o2 =>
  (f_X11_isConsistent S.mv).bind fun o4 =>
  if (o2.1) = (o4.1) then some (mkS S.ep S.fc S.qv S.bv (o2.2) S.hv S.pv S.ov S.svd (o4.2), ol, od) else none
def lawOp_36 (S : Sys) (a1 a2 a3 a4 : Int32) (ol : Nat → Int64) (od : Nat → UInt64) : Option LR :=
  (f_L_append (none, S.ep, S.fc) S.pv (((a1).toUInt32 % 65536).toInt32) ol).bind fun k1 =>
  (f_X11_append S.mv (((a1).toUInt32 % 65536).toInt32)).bind fun o3 =>
  (f_X11_thrown (o3.2)).bind fun o5 =>
  if o5 = (k1.1) then (if (k1.1) = 0 then (if ((k1.2.1) (0 : Int32).toNatClampNeg) = (o3.1).toInt64 then some (mkS S.ep S.fc S.qv S.bv S.sv S.hv (k1.2.2) S.ov S.svd (o3.2), (k1.2.1), od) else none) else some (mkS S.ep S.fc S.qv S.bv S.sv S.hv (k1.2.2) S.ov S.svd (o3.2), (k1.2.1), od)) else none
def lawOp_37 (S : Sys) (a1 a2 a3 a4 : Int32) (ol : Nat → Int64) (od : Nat → UInt64) : Option LR :=
  (f_L_run S.ep S.fc S.qv S.bv S.pv S.hv  ol).bind fun k1 =>
  (f_X11_run S.mv).bind fun o3 =>
  (f_X11_thrown (o3.2)).bind fun o5 =>
  if o5 = (k1.1) then (if (k1.1) = 0 then (if ((k1.2.1) (0 : Int32).toNatClampNeg) = (o3.1).toInt64 then some (mkS (k1.2.2.1) (k1.2.2.2.1) (k1.2.2.2.2.1) (k1.2.2.2.2.2.1) S.sv (k1.2.2.2.2.2.2.2) (k1.2.2.2.2.2.2.1) S.ov S.svd (o3.2), (k1.2.1), od) else none) else some (mkS (k1.2.2.1) (k1.2.2.2.1) (k1.2.2.2.2.1) (k1.2.2.2.2.2.1) S.sv (k1.2.2.2.2.2.2.2) (k1.2.2.2.2.2.2.1) S.ov S.svd (o3.2), (k1.2.1), od)) else none
def lawOp_38 (S : Sys) (a1 a2 a3 a4 : Int32) (ol : Nat → Int64) (od : Nat → UInt64) : Option LR :=
  (f_L_errorPosition (none, S.ep, S.fc)  ol).bind fun k1 =>
  (f_X11_errorPosition S.mv).bind fun o3 =>
  (f_X11_thrown (o3.2)).bind fun o5 =>
  if o5 = (k1.1) then (if (k1.1) = 0 then (if ((k1.2) (0 : Int32).toNatClampNeg) = (o3.1).toInt64 then some (mkS S.ep S.fc S.qv S.bv S.sv S.hv S.pv S.ov S.svd (o3.2), (k1.2), od) else none) else some (mkS S.ep S.fc S.qv S.bv S.sv S.hv S.pv S.ov S.svd (o3.2), (k1.2), od)) else none
def lawOp_39 (S : Sys) (a1 a2 a3 a4 : Int32) (ol : Nat → Int64) (od : Nat → UInt64) : Option LR :=
  (f_L_failedCommand (none, S.ep, S.fc)  ol).bind fun k1 =>
  (f_X11_failedCommand S.mv).bind fun o3 =>
  (f_X11_thrown (o3.2)).bind fun o5 =>
  if o5 = (k1.1) then (if (k1.1) = 0 then (if ((k1.2) (0 : Int32).toNatClampNeg) = (o3.1).toInt64 then some (mkS S.ep S.fc S.qv S.bv S.sv S.hv S.pv S.ov S.svd (o3.2), (k1.2), od) else none) else some (mkS S.ep S.fc S.qv S.bv S.sv S.hv S.pv S.ov S.svd (o3.2), (k1.2), od)) else none
def lawOp_40 (S : Sys) (a1 a2 a3 a4 : Int32) (ol : Nat → Int64) (od : Nat → UInt64) : Option LR :=
  (f_L_writeRow (none, S.ep, S.fc) S.qv S.ov a1 ol).bind fun k1 =>
  (f_X11_writeRow S.mv a1).bind fun o3 =>
  (f_X11_thrown (o3.2)).bind fun o5 =>
  if o5 = (k1.1) then (if (k1.1) = 0 then (if ((k1.2.1) (0 : Int32).toNatClampNeg) = (o3.1).toInt64 then some (mkS S.ep S.fc S.qv S.bv S.sv S.hv S.pv (k1.2.2) S.svd (o3.2), (k1.2.1), od) else none) else some (mkS S.ep S.fc S.qv S.bv S.sv S.hv S.pv (k1.2.2) S.svd (o3.2), (k1.2.1), od)) else none
def lawOp_41 (S : Sys) (a1 a2 a3 a4 : Int32) (ol : Nat → Int64) (od : Nat → UInt64) : Option LR :=
  (f_L_outputAt (none, S.ep, S.fc) S.ov a1 ol).bind fun k1 =>
  (f_X11_outputAt S.mv a1).bind fun o3 =>
  (f_X11_thrown (o3.2)).bind fun o5 =>
  if o5 = (k1.1) then (if (k1.1) = 0 then (if ((k1.2) (0 : Int32).toNatClampNeg) = (o3.1).toInt64 then some (mkS S.ep S.fc S.qv S.bv S.sv S.hv S.pv S.ov S.svd (o3.2), (k1.2), od) else none) else some (mkS S.ep S.fc S.qv S.bv S.sv S.hv S.pv S.ov S.svd (o3.2), (k1.2), od)) else none
def lawOp_42 (S : Sys) (a1 a2 a3 a4 : Int32) (ol : Nat → Int64) (od : Nat → UInt64) : Option LR :=
  (f_L_undo (none, S.ep, S.fc) S.qv S.hv  ol).bind fun k1 =>
  (f_X11_undo S.mv).bind fun o3 =>
  (f_X11_thrown (o3.2)).bind fun o5 =>
  if o5 = (k1.1) then (if (k1.1) = 0 then (if ((k1.2.1) (0 : Int32).toNatClampNeg) = (o3.1).toInt64 then some (mkS S.ep S.fc (k1.2.2.1) S.bv S.sv (k1.2.2.2) S.pv S.ov S.svd (o3.2), (k1.2.1), od) else none) else some (mkS S.ep S.fc (k1.2.2.1) S.bv S.sv (k1.2.2.2) S.pv S.ov S.svd (o3.2), (k1.2.1), od)) else none
def lawOp_43 (S : Sys) (a1 a2 a3 a4 : Int32) (ol : Nat → Int64) (od : Nat → UInt64) : Option LR :=
  (f_X10_save S.qv S.svd).bind fun o1 =>
  (f_X11_save S.mv).bind fun o3 =>
  some (mkS S.ep S.fc S.qv S.bv S.sv S.hv S.pv S.ov (some o1) o3, ol, od)
def lawOp_44 (S : Sys) (a1 a2 a3 a4 : Int32) (ol : Nat → Int64) (od : Nat → UInt64) : Option LR :=
  (f_L_restore S.qv S.hv S.svd).bind fun k1 =>
  (f_X11_restore S.mv).bind fun o3 =>
  (f_X11_thrown o3).bind fun o5 =>
  if o5 = (k1.1) then some (mkS S.ep S.fc (k1.2.1) S.bv S.sv (k1.2.2) S.pv S.ov S.svd o3, ol, od) else none
def lawOp (k : Nat) (S : Sys) (a1 a2 a3 a4 : Int32) (ol : Nat → Int64) (od : Nat → UInt64) : Option LR := match k with
  | 0 => lawOp_0 S a1 a2 a3 a4 ol od
  | 1 => lawOp_1 S a1 a2 a3 a4 ol od
  | 2 => lawOp_2 S a1 a2 a3 a4 ol od
  | 3 => lawOp_3 S a1 a2 a3 a4 ol od
  | 4 => lawOp_4 S a1 a2 a3 a4 ol od
  | 5 => lawOp_5 S a1 a2 a3 a4 ol od
  | 6 => lawOp_6 S a1 a2 a3 a4 ol od
  | 7 => lawOp_7 S a1 a2 a3 a4 ol od
  | 8 => lawOp_8 S a1 a2 a3 a4 ol od
  | 9 => lawOp_9 S a1 a2 a3 a4 ol od
  | 10 => lawOp_10 S a1 a2 a3 a4 ol od
  | 11 => lawOp_11 S a1 a2 a3 a4 ol od
  | 12 => lawOp_12 S a1 a2 a3 a4 ol od
  | 13 => lawOp_13 S a1 a2 a3 a4 ol od
  | 14 => lawOp_14 S a1 a2 a3 a4 ol od
  | 15 => lawOp_15 S a1 a2 a3 a4 ol od
  | 16 => lawOp_16 S a1 a2 a3 a4 ol od
  | 17 => lawOp_17 S a1 a2 a3 a4 ol od
  | 18 => lawOp_18 S a1 a2 a3 a4 ol od
  | 19 => lawOp_19 S a1 a2 a3 a4 ol od
  | 20 => lawOp_20 S a1 a2 a3 a4 ol od
  | 21 => lawOp_21 S a1 a2 a3 a4 ol od
  | 22 => lawOp_22 S a1 a2 a3 a4 ol od
  | 23 => lawOp_23 S a1 a2 a3 a4 ol od
  | 24 => lawOp_24 S a1 a2 a3 a4 ol od
  | 25 => lawOp_25 S a1 a2 a3 a4 ol od
  | 26 => lawOp_26 S a1 a2 a3 a4 ol od
  | 27 => lawOp_27 S a1 a2 a3 a4 ol od
  | 28 => lawOp_28 S a1 a2 a3 a4 ol od
  | 29 => lawOp_29 S a1 a2 a3 a4 ol od
  | 30 => lawOp_30 S a1 a2 a3 a4 ol od
  | 31 => lawOp_31 S a1 a2 a3 a4 ol od
  | 32 => lawOp_32 S a1 a2 a3 a4 ol od
  | 33 => lawOp_33 S a1 a2 a3 a4 ol od
  | 34 => lawOp_34 S a1 a2 a3 a4 ol od
  | 35 => lawOp_35 S a1 a2 a3 a4 ol od
  | 36 => lawOp_36 S a1 a2 a3 a4 ol od
  | 37 => lawOp_37 S a1 a2 a3 a4 ol od
  | 38 => lawOp_38 S a1 a2 a3 a4 ol od
  | 39 => lawOp_39 S a1 a2 a3 a4 ol od
  | 40 => lawOp_40 S a1 a2 a3 a4 ol od
  | 41 => lawOp_41 S a1 a2 a3 a4 ol od
  | 42 => lawOp_42 S a1 a2 a3 a4 ol od
  | 43 => lawOp_43 S a1 a2 a3 a4 ol od
  | 44 => lawOp_44 S a1 a2 a3 a4 ol od
  | _ => some (S, ol, od)
