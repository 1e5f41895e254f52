def f_X11_placeOf (a0 : Int32) : Option Int32 :=
  some (19 + (7 * a0))
def f_X11_isIn (a0 : Int32) (a1 : Int32) (a2 : Int32) : Option Int32 :=
  if a0 < a1 then
  (some 0)
  else
  (if a2 < a0 then
  (some 0)
  else
  (some 1))
def f_X11_holds_J35 (mv : MV) (y0 : Int32) : Option (Int32 × MV) :=
  jbN (mSThrown y0 mv) fun w1 =>
  if (mThrown w1) = 0 then
  (some (1, w1))
  else
  (some (0, w1))
def f_X11_holds (mv : MV) (a0 : Int32) (a1 : Int32) (a2 : Int32) (a3 : Int32) : Option (Int32 × MV) :=
  if a0 = 0 then
  (f_X11_holds_J35 mv 1)
  else
  (if a1 = 0 then
  (f_X11_holds_J35 mv 2)
  else
  (if a2 = 0 then
  (f_X11_holds_J35 mv 3)
  else
  (if a3 = 0 then
  (f_X11_holds_J35 mv 4)
  else
  (f_X11_holds_J35 mv 0))))
def f_X11_goes (mv : MV) (a0 : Int32) : Option (Int32 × MV) :=
  (f_X11_holds mv a0 1 1 1).bind fun o1 =>
  if vp_nar .boolean (o1.1) = (o1.1) then some ((o1.1), (o1.2)) else none
def f_X11_isCell (a0 : Int32) (a1 : Int32) : Option Int32 :=
  (f_X11_isIn a0 0 4).bind fun o1 =>
  if o1 = 0 then
  (some 0)
  else
  ((f_X11_isIn a1 0 5).bind fun o3 =>
  if o3 = 0 then
  (some 0)
  else
  (some 1))
def f_X11_cellAt (a0 : Int32) (a1 : Int32) : Option Int32 :=
  (f_X11_isCell a0 a1).bind fun o1 =>
  if o1 = 0 then
  (some 0)
  else
  (some ((6 * a0) + a1))
def f_X11_of (mv : MV) (a0 : Int32) (a1 : Int32) : Option Int32 :=
  (f_X11_placeOf a0).bind fun o1 =>
  if jIn (o1 + a1) 229 then
  some ((mNow mv) (o1 + a1).toNatClampNeg)
  else none
def f_X11_beside_J47 (x2 : Int32) (y0 : Int32) (y1 : Int32) : Option Int32 :=
  jbN (y1 + y0) fun z2 =>
  (f_X11_isCell x2 z2).bind fun o3 =>
  if o3 = 0 then
  (some (-1))
  else
  (some ((6 * x2) + z2))
def f_X11_beside_J22 (x0 : Int32) (x1 : Int32) (y0 : Int32) (y1 : Int32) : Option Int32 :=
  jbN (y1 + y0) fun z1 =>
  if x1 = 1 then
  (f_X11_beside_J47 z1 1 (x0 - x0 / 6 * 6))
  else
  (if x1 = 3 then
  (f_X11_beside_J47 z1 (-1) (x0 - x0 / 6 * 6))
  else
  (f_X11_beside_J47 z1 0 (x0 - x0 / 6 * 6)))
def f_X11_beside (a0 : Int32) (a1 : Int32) : Option Int32 :=
  if a1 = 0 then
  (f_X11_beside_J22 a0 a1 (-1) (a0 / 6))
  else
  (if a1 = 2 then
  (f_X11_beside_J22 a0 a1 1 (a0 / 6))
  else
  (f_X11_beside_J22 a0 a1 0 (a0 / 6)))
def f_X11_farFrom (a0 : Int32) (a1 : Int32) : Option Int32 :=
  some ((jAbs ((a0 / 6) - (a1 / 6))) + (jAbs ((a0 - a0 / 6 * 6) - (a1 - a1 / 6 * 6))))
def f_X11_steepest_J45 (mv : MV) (x1 : Int32) (x2 : Int32) (x4 : Int32) (y0 : Int32) : Option (Sum (Int32 × Int32) (Int32 × Int32)) :=
  some (.inl (y0, (x4 + 1)))
def f_X11_steepest_L5 (mv : MV) (x1 : Int32) (x2 : Int32) (x3 : Int32) (x4 : Int32) : Option (Sum (Int32 × Int32) (Int32 × Int32)) :=
  if 4 ≤ x4 then
  (some (.inr (x3, x4)))
  else
  ((f_X11_beside x1 x4).bind fun o1 =>
  if o1 = (-1) then
  (f_X11_steepest_J45 mv x1 x2 x4 x3)
  else
  ((f_X11_of mv o1 0).bind fun o3 =>
  f_X11_steepest_J45 mv x1 x2 x4 (jMax x3 (jAbs (x2 - o3)))))
def f_X11_steepest (mv : MV) (a0 : Int32) (a1 : Int32) : Option Int32 :=
  (jbL (fun s => f_X11_steepest_L5 mv a0 a1 (s.1) (s.2)) 5000 (0, 0)).bind fun o5 =>
  some (o5.1)
def f_X11_isStone (a0 : Int32) : Option Int32 :=
  (f_X11_isIn a0 0 3).bind fun o1 =>
  if vp_nar .boolean o1 = o1 then some o1 else none
def f_X11_weightOf (a0 : Int32) : Option Int32 :=
  some (2 + a0)
def f_X11_sets (mv : MV) (a0 : Int32) (a1 : Int32) (a2 : Int32) : Option (Int32 × MV) :=
  (f_X11_cellAt a0 a1).bind fun o1 =>
  (f_X11_of mv o1 1).bind fun o3 =>
  (f_X11_isCell a0 a1).bind fun o5 =>
  (f_X11_isStone a2).bind fun o7 =>
  (f_X11_holds mv o5 o7 1 1).bind fun o9 =>
  if (o9.1) = 0 then
  (some (o3, (o9.2)))
  else
  ((f_X11_placeOf o1).bind fun o11 =>
  if jIn (o11 + 1) 229 then
  jbN (mSNow (upd (mNow (o9.2)) (o11 + 1).toNatClampNeg a2) (o9.2)) fun w14 =>
  some (o3, w14)
  else none)
def f_X11_mayCut_J76 (mv : MV) (y0 : Int32) (y1 : Int32) (y2 : Int32) : Option (Int32 × MV) :=
  (f_X11_holds mv y2 y1 y0 1).bind fun o16 =>
  if vp_nar .boolean (o16.1) = (o16.1) then some ((o16.1), (o16.2)) else none
def f_X11_mayCut_J39 (mv : MV) (x1 : Int32) (x2 : Int32) (x3 : Int32) (y0 : Int32) : Option (Int32 × MV) :=
  (f_X11_isCell x1 x2).bind fun o9 =>
  (f_X11_of mv x3 0).bind fun o11 =>
  (f_X11_steepest mv x3 (o11 - 1)).bind fun o13 =>
  if jIn 0 229 then
  if ((mNow mv) (0 : Int32).toNatClampNeg) < o13 then
  (f_X11_mayCut_J76 mv 0 y0 o9)
  else
  (f_X11_mayCut_J76 mv 1 y0 o9)
  else none
def f_X11_mayCut_J38 (mv : MV) (x1 : Int32) (x2 : Int32) (x3 : Int32) : Option (Int32 × MV) :=
  f_X11_mayCut_J39 mv x1 x2 x3 0
def f_X11_mayCut (mv : MV) (a0 : Int32) (a1 : Int32) : Option (Int32 × MV) :=
  (f_X11_cellAt a0 a1).bind fun o1 =>
  (f_X11_of mv o1 2).bind fun o3 =>
  if o3 = 0 then
  ((f_X11_of mv o1 0).bind fun o5 =>
  if o5 ≤ 0 then
  (f_X11_mayCut_J38 mv a0 a1 o1)
  else
  ((f_X11_of mv o1 3).bind fun o7 =>
  if 3 ≤ o7 then
  (f_X11_mayCut_J38 mv a0 a1 o1)
  else
  (f_X11_mayCut_J39 mv a0 a1 o1 1)))
  else
  (f_X11_mayCut_J38 mv a0 a1 o1)
def f_X11_cuts (mv : MV) (a0 : Int32) (a1 : Int32) : Option (Int32 × MV) :=
  (f_X11_mayCut mv a0 a1).bind fun o1 =>
  if (o1.1) = 0 then
  (some (0, (o1.2)))
  else
  ((f_X11_cellAt a0 a1).bind fun o3 =>
  (f_X11_placeOf o3).bind fun o5 =>
  if jIn (o5 + 0) 229 then
  if jIn (o5 + 0) 229 then
  jbN (mSNow (upd (mNow (o1.2)) (o5 + 0).toNatClampNeg (((mNow (o1.2)) (o5 + 0).toNatClampNeg) - 1)) (o1.2)) fun w9 =>
  if jIn (o5 + 3) 229 then
  if jIn (o5 + 1) 229 then
  if jIn ((o5 + 4) + ((mNow w9) (o5 + 3).toNatClampNeg)) 229 then
  jbN (mSNow (upd (mNow w9) ((o5 + 4) + ((mNow w9) (o5 + 3).toNatClampNeg)).toNatClampNeg ((mNow w9) (o5 + 1).toNatClampNeg)) w9) fun w13 =>
  if jIn (o5 + 3) 229 then
  if jIn (o5 + 3) 229 then
  jbN (mSNow (upd (mNow w13) (o5 + 3).toNatClampNeg (((mNow w13) (o5 + 3).toNatClampNeg) + 1)) w13) fun w16 =>
  if jIn 2 229 then
  if jIn 2 229 then
  jbN (mSNow (upd (mNow w16) (2 : Int32).toNatClampNeg (((mNow w16) (2 : Int32).toNatClampNeg) + 1)) w16) fun w19 =>
  if jIn (o5 + 0) 229 then
  some (((mNow w19) (o5 + 0).toNatClampNeg), w19)
  else none
  else none
  else none
  else none
  else none
  else none
  else none
  else none
  else none
  else none)
def f_X11_fills_J86 (mv : MV) (x3 : Int32) (y0 : Int32) (y1 : Int32) (y2 : Int32) : Option (Int32 × MV) :=
  (f_X11_holds mv y2 y1 y0 1).bind fun o17 =>
  if (o17.1) = 0 then
  (some (0, (o17.2)))
  else
  (if jIn 1 229 then
  if jIn 1 229 then
  jbN (mSNow (upd (mNow (o17.2)) (1 : Int32).toNatClampNeg (((mNow (o17.2)) (1 : Int32).toNatClampNeg) - 1)) (o17.2)) fun w21 =>
  (f_X11_placeOf x3).bind fun o22 =>
  if jIn (o22 + 0) 229 then
  if jIn (o22 + 0) 229 then
  jbN (mSNow (upd (mNow w21) (o22 + 0).toNatClampNeg (((mNow w21) (o22 + 0).toNatClampNeg) + 1)) w21) fun w26 =>
  (f_X11_of w26 x3 0).bind fun o27 =>
  some (o27, w26)
  else none
  else none
  else none
  else none)
def f_X11_fills_J49 (mv : MV) (x1 : Int32) (x2 : Int32) (x3 : Int32) (y0 : Int32) : Option (Int32 × MV) :=
  (f_X11_isCell x1 x2).bind fun o10 =>
  (f_X11_of mv x3 0).bind fun o12 =>
  (f_X11_steepest mv x3 (o12 + 1)).bind fun o14 =>
  if jIn 0 229 then
  if ((mNow mv) (0 : Int32).toNatClampNeg) < o14 then
  (f_X11_fills_J86 mv x3 0 y0 o10)
  else
  (f_X11_fills_J86 mv x3 1 y0 o10)
  else none
def f_X11_fills_J48 (mv : MV) (x1 : Int32) (x2 : Int32) (x3 : Int32) : Option (Int32 × MV) :=
  f_X11_fills_J49 mv x1 x2 x3 0
def f_X11_fills (mv : MV) (a0 : Int32) (a1 : Int32) : Option (Int32 × MV) :=
  (f_X11_cellAt a0 a1).bind fun o1 =>
  (f_X11_of mv o1 2).bind fun o3 =>
  if o3 = 0 then
  ((f_X11_of mv o1 0).bind fun o5 =>
  if 9 ≤ o5 then
  (f_X11_fills_J48 mv a0 a1 o1)
  else
  ((f_X11_of mv o1 3).bind fun o7 =>
  if o7 = 0 then
  (if jIn 1 229 then
  if ((mNow mv) (1 : Int32).toNatClampNeg) ≤ 0 then
  (f_X11_fills_J48 mv a0 a1 o1)
  else
  (f_X11_fills_J49 mv a0 a1 o1 1)
  else none)
  else
  (f_X11_fills_J48 mv a0 a1 o1)))
  else
  (f_X11_fills_J48 mv a0 a1 o1)
def f_X11_toggles (mv : MV) (a0 : Int32) (a1 : Int32) : Option (Int32 × MV) :=
  (f_X11_isCell a0 a1).bind fun o1 =>
  (f_X11_goes mv o1).bind fun o3 =>
  if (o3.1) = 0 then
  (some (0, (o3.2)))
  else
  ((f_X11_cellAt a0 a1).bind fun o5 =>
  (f_X11_placeOf o5).bind fun o7 =>
  jbN (o7 + 2) fun z9 =>
  if jIn z9 229 then
  if jIn z9 229 then
  jbN (mSNow (upd (mNow (o3.2)) z9.toNatClampNeg (1 - ((mNow (o3.2)) z9.toNatClampNeg))) (o3.2)) fun w12 =>
  if jIn z9 229 then
  some (((mNow w12) z9.toNatClampNeg), w12)
  else none
  else none
  else none)
def f_X11_limits_J56 (mv : MV) (x1 : Int32) (x3 : Int32) (y0 : Int32) (y1 : Int32) : Option (Int32 × MV) :=
  (f_X11_holds mv y1 y0 1 1).bind fun o10 =>
  if (o10.1) = 0 then
  (some (x3, (o10.2)))
  else
  (if jIn 0 229 then
  jbN (mSNow (upd (mNow (o10.2)) (0 : Int32).toNatClampNeg x1) (o10.2)) fun w13 =>
  some (x3, w13)
  else none)
def f_X11_limits_L4 (mv : MV) (x1 : Int32) (x2 : Int32) (x3 : Int32) : Option (Sum (Int32 × Int32) (Int32 × Int32)) :=
  if 30 ≤ x3 then
  (some (.inr (x2, x3)))
  else
  ((f_X11_of mv x3 0).bind fun o5 =>
  (f_X11_steepest mv x3 o5).bind fun o7 =>
  jbN (jMax x2 o7) fun z9 =>
  some (.inl (z9, (x3 + 1))))
def f_X11_limits (mv : MV) (a0 : Int32) : Option (Int32 × MV) :=
  (jbL (fun s => f_X11_limits_L4 mv a0 (s.1) (s.2)) 5000 (0, 0)).bind fun o4 =>
  if jIn 0 229 then
  jbN ((mNow mv) (0 : Int32).toNatClampNeg) fun z2 =>
  (f_X11_isIn a0 1 4).bind fun o3 =>
  if a0 < (o4.1) then
  (f_X11_limits_J56 mv a0 z2 0 o3)
  else
  (f_X11_limits_J56 mv a0 z2 1 o3)
  else none
def f_X11_isWinch (mv : MV) (a0 : Int32) : Option Int32 :=
  if jIn 5 229 then
  (f_X11_isIn a0 0 (((mNow mv) (5 : Int32).toNatClampNeg) - 1)).bind fun o2 =>
  if vp_nar .boolean o2 = o2 then some o2 else none
  else none
def f_X11_ofWinch (mv : MV) (a0 : Int32) (a1 : Int32) : Option Int32 :=
  if jIn ((10 + (3 * a0)) + a1) 229 then
  some ((mNow mv) ((10 + (3 * a0)) + a1).toNatClampNeg)
  else none
def f_X11_hasWinch_J33 (mv : MV) (x1 : Int32) (x3 : Int32) (y0 : Int32) : Option (Sum (Int32 × Int32) (Int32 × Int32)) :=
  some (.inl (y0, (x3 + 1)))
def f_X11_hasWinch_J28 (mv : MV) (x1 : Int32) (x3 : Int32) : Option (Sum (Int32 × Int32) (Int32 × Int32)) :=
  f_X11_hasWinch_J33 mv x1 x3 1
def f_X11_hasWinch_L4 (mv : MV) (x1 : Int32) (x2 : Int32) (x3 : Int32) : Option (Sum (Int32 × Int32) (Int32 × Int32)) :=
  if jIn 5 229 then
  if ((mNow mv) (5 : Int32).toNatClampNeg) ≤ x3 then
  (some (.inr (x2, x3)))
  else
  (if x2 = 0 then
  ((f_X11_ofWinch mv x3 0).bind fun o3 =>
  if o3 = x1 then
  (f_X11_hasWinch_J28 mv x1 x3)
  else
  (f_X11_hasWinch_J33 mv x1 x3 0))
  else
  (f_X11_hasWinch_J28 mv x1 x3))
  else none
def f_X11_hasWinch (mv : MV) (a0 : Int32) : Option Int32 :=
  (jbL (fun s => f_X11_hasWinch_L4 mv a0 (s.1) (s.2)) 5000 (0, 0)).bind fun o4 =>
  if vp_nar .boolean (o4.1) = (o4.1) then some (o4.1) else none
def f_X11_adds_J67 (mv : MV) (x3 : Int32) (x4 : Int32) (x5 : Int32) (y0 : Int32) (y1 : Int32) (y2 : Int32) : Option (Int32 × MV) :=
  (f_X11_holds mv y2 y1 y0 1).bind fun o12 =>
  if (o12.1) = 0 then
  (some (0, (o12.2)))
  else
  (if jIn 5 229 then
  jbN (10 + (3 * ((mNow (o12.2)) (5 : Int32).toNatClampNeg))) fun z15 =>
  if jIn (z15 + 0) 229 then
  jbN (mSNow (upd (mNow (o12.2)) (z15 + 0).toNatClampNeg x5) (o12.2)) fun w17 =>
  if jIn (z15 + 1) 229 then
  jbN (mSNow (upd (mNow w17) (z15 + 1).toNatClampNeg x3) w17) fun w19 =>
  if jIn (z15 + 2) 229 then
  jbN (mSNow (upd (mNow w19) (z15 + 2).toNatClampNeg x4) w19) fun w21 =>
  if jIn 5 229 then
  if jIn 5 229 then
  jbN (mSNow (upd (mNow w21) (5 : Int32).toNatClampNeg (((mNow w21) (5 : Int32).toNatClampNeg) + 1)) w21) fun w24 =>
  if jIn 5 229 then
  some ((((mNow w24) (5 : Int32).toNatClampNeg) - 1), w24)
  else none
  else none
  else none
  else none
  else none
  else none
  else none)
def f_X11_adds_J66 (mv : MV) (x3 : Int32) (x4 : Int32) (x5 : Int32) (y0 : Int32) (y1 : Int32) : Option (Int32 × MV) :=
  f_X11_adds_J67 mv x3 x4 x5 0 y0 y1
def f_X11_adds_J33 (mv : MV) (x1 : Int32) (x2 : Int32) (x3 : Int32) (x4 : Int32) (x5 : Int32) (y0 : Int32) : Option (Int32 × MV) :=
  (f_X11_isCell x1 x2).bind fun o7 =>
  if jIn 5 229 then
  if 3 ≤ ((mNow mv) (5 : Int32).toNatClampNeg) then
  (f_X11_adds_J66 mv x3 x4 x5 y0 o7)
  else
  ((f_X11_hasWinch mv x5).bind fun o10 =>
  if o10 = 0 then
  (f_X11_adds_J67 mv x3 x4 x5 1 y0 o7)
  else
  (f_X11_adds_J66 mv x3 x4 x5 y0 o7))
  else none
def f_X11_adds_J32 (mv : MV) (x1 : Int32) (x2 : Int32) (x3 : Int32) (x4 : Int32) (x5 : Int32) : Option (Int32 × MV) :=
  f_X11_adds_J33 mv x1 x2 x3 x4 x5 0
def f_X11_adds (mv : MV) (a0 : Int32) (a1 : Int32) (a2 : Int32) (a3 : Int32) : Option (Int32 × MV) :=
  (f_X11_cellAt a0 a1).bind fun o1 =>
  (f_X11_isIn a2 2 9).bind fun o3 =>
  if o3 = 0 then
  (f_X11_adds_J32 mv a0 a1 a2 a3 o1)
  else
  ((f_X11_isIn a3 1 6).bind fun o5 =>
  if o5 = 0 then
  (f_X11_adds_J32 mv a0 a1 a2 a3 o1)
  else
  (f_X11_adds_J33 mv a0 a1 a2 a3 o1 1))
def f_X11_topOf (mv : MV) (a0 : Int32) : Option Int32 :=
  (f_X11_of mv a0 3).bind fun o1 =>
  if o1 = 0 then
  (some (-1))
  else
  ((f_X11_of mv a0 ((4 + o1) - 1)).bind fun o3 =>
  some o3)
def f_X11_canLift_J30 (mv : MV) (x1 : Int32) (x3 : Int32) (y0 : Int32) : Option Int32 :=
  if x3 = (-1) then
  (some 0)
  else
  (if y0 = 0 then
  (some 0)
  else
  ((f_X11_weightOf x3).bind fun o9 =>
  (f_X11_ofWinch mv x1 1).bind fun o11 =>
  if o11 < o9 then
  (some 0)
  else
  (some 1)))
def f_X11_canLift (mv : MV) (a0 : Int32) (a1 : Int32) : Option Int32 :=
  (f_X11_topOf mv a1).bind fun o1 =>
  (f_X11_ofWinch mv a0 0).bind fun o3 =>
  (f_X11_farFrom o3 a1).bind fun o5 =>
  (f_X11_ofWinch mv a0 2).bind fun o7 =>
  if o7 < o5 then
  (f_X11_canLift_J30 mv a0 o1 0)
  else
  (f_X11_canLift_J30 mv a0 o1 1)
def f_X11_raises_J87 (mv : MV) (x4 : Int32) (x6 : Int32) (y0 : Int32) (y1 : Int32) (y2 : Int32) (y3 : Int32) : Option (Int32 × MV) :=
  (f_X11_holds mv y3 y2 y1 y0).bind fun o13 =>
  if (o13.1) = 0 then
  (some (0, (o13.2)))
  else
  ((f_X11_weightOf x6).bind fun o15 =>
  (f_X11_of (o13.2) x4 0).bind fun o17 =>
  jbN (o15 * (10 - o17)) fun z19 =>
  (f_X11_placeOf x4).bind fun o20 =>
  if jIn (o20 + 3) 229 then
  if jIn (o20 + 3) 229 then
  jbN (mSNow (upd (mNow (o13.2)) (o20 + 3).toNatClampNeg (((mNow (o13.2)) (o20 + 3).toNatClampNeg) - 1)) (o13.2)) fun w24 =>
  if jIn (6 + x6) 229 then
  if jIn (6 + x6) 229 then
  jbN (mSNow (upd (mNow w24) (6 + x6).toNatClampNeg (((mNow w24) (6 + x6).toNatClampNeg) + 1)) w24) fun w27 =>
  if jIn 3 229 then
  if jIn 3 229 then
  jbN (mSNow (upd (mNow w27) (3 : Int32).toNatClampNeg (((mNow w27) (3 : Int32).toNatClampNeg) + 1)) w27) fun w30 =>
  if jIn 4 229 then
  if jIn 4 229 then
  jbN (mSNow (upd (mNow w30) (4 : Int32).toNatClampNeg (((mNow w30) (4 : Int32).toNatClampNeg) + z19)) w30) fun w33 =>
  some (z19, w33)
  else none
  else none
  else none
  else none
  else none
  else none
  else none
  else none)
def f_X11_raises_J86 (mv : MV) (x4 : Int32) (x6 : Int32) (y0 : Int32) (y1 : Int32) (y2 : Int32) : Option (Int32 × MV) :=
  f_X11_raises_J87 mv x4 x6 0 y0 y1 y2
def f_X11_raises_J67 (mv : MV) (x1 : Int32) (x4 : Int32) (x5 : Int32) (x6 : Int32) (y0 : Int32) (y1 : Int32) (y2 : Int32) : Option (Int32 × MV) :=
  if x5 = 0 then
  (f_X11_raises_J86 mv x4 x6 y0 y1 y2)
  else
  ((f_X11_canLift mv x1 x4).bind fun o11 =>
  if o11 = 0 then
  (f_X11_raises_J86 mv x4 x6 y0 y1 y2)
  else
  (f_X11_raises_J87 mv x4 x6 1 y0 y1 y2))
def f_X11_raises_J52 (mv : MV) (x1 : Int32) (x4 : Int32) (x5 : Int32) (x6 : Int32) (y0 : Int32) (y1 : Int32) : Option (Int32 × MV) :=
  (f_X11_of mv x4 2).bind fun o9 =>
  if o9 = 0 then
  (f_X11_raises_J67 mv x1 x4 x5 x6 1 y0 y1)
  else
  (f_X11_raises_J67 mv x1 x4 x5 x6 0 y0 y1)
def f_X11_raises_J28 (mv : MV) (x1 : Int32) (x4 : Int32) (y0 : Int32) : Option (Int32 × MV) :=
  (f_X11_topOf mv x4).bind fun o7 =>
  if o7 = (-1) then
  (f_X11_raises_J52 mv x1 x4 y0 o7 0 y0)
  else
  (f_X11_raises_J52 mv x1 x4 y0 o7 1 y0)
def f_X11_raises_J27 (mv : MV) (x1 : Int32) (x4 : Int32) : Option (Int32 × MV) :=
  f_X11_raises_J28 mv x1 x4 0
def f_X11_raises (mv : MV) (a0 : Int32) (a1 : Int32) (a2 : Int32) : Option (Int32 × MV) :=
  (f_X11_cellAt a1 a2).bind fun o1 =>
  (f_X11_isWinch mv a0).bind fun o3 =>
  if o3 = 0 then
  (f_X11_raises_J27 mv a0 o1)
  else
  ((f_X11_isCell a1 a2).bind fun o5 =>
  if o5 = 0 then
  (f_X11_raises_J27 mv a0 o1)
  else
  (f_X11_raises_J28 mv a0 o1 1))
def f_X11_crushes_J47 (mv : MV) (x1 : Int32) (x2 : Int32) (y0 : Int32) (y1 : Int32) : Option (Int32 × MV) :=
  (f_X11_holds mv y1 y0 1 1).bind fun o6 =>
  if (o6.1) = 0 then
  (some (0, (o6.2)))
  else
  (if jIn (6 + x1) 229 then
  if jIn (6 + x1) 229 then
  jbN (mSNow (upd (mNow (o6.2)) (6 + x1).toNatClampNeg (((mNow (o6.2)) (6 + x1).toNatClampNeg) - x2)) (o6.2)) fun w10 =>
  if jIn 1 229 then
  if jIn 1 229 then
  jbN (mSNow (upd (mNow w10) (1 : Int32).toNatClampNeg (((mNow w10) (1 : Int32).toNatClampNeg) + (2 * x2))) w10) fun w13 =>
  if jIn 1 229 then
  some (((mNow w13) (1 : Int32).toNatClampNeg), w13)
  else none
  else none
  else none
  else none
  else none)
def f_X11_crushes_J46 (mv : MV) (x1 : Int32) (x2 : Int32) (y0 : Int32) : Option (Int32 × MV) :=
  f_X11_crushes_J47 mv x1 x2 0 y0
def f_X11_crushes_J22 (mv : MV) (x1 : Int32) (x2 : Int32) (y0 : Int32) : Option (Int32 × MV) :=
  if y0 = 0 then
  (f_X11_crushes_J46 mv x1 x2 y0)
  else
  (if jIn (6 + x1) 229 then
  if ((mNow mv) (6 + x1).toNatClampNeg) < x2 then
  (f_X11_crushes_J46 mv x1 x2 y0)
  else
  (f_X11_crushes_J47 mv x1 x2 1 y0)
  else none)
def f_X11_crushes_J21 (mv : MV) (x1 : Int32) (x2 : Int32) : Option (Int32 × MV) :=
  f_X11_crushes_J22 mv x1 x2 0
def f_X11_crushes (mv : MV) (a0 : Int32) (a1 : Int32) : Option (Int32 × MV) :=
  (f_X11_isStone a0).bind fun o1 =>
  if o1 = 0 then
  (f_X11_crushes_J21 mv a0 a1)
  else
  ((f_X11_isIn a1 1 20).bind fun o3 =>
  if o3 = 0 then
  (f_X11_crushes_J21 mv a0 a1)
  else
  (f_X11_crushes_J22 mv a0 a1 1))
