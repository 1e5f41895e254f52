/-! what ask gives back -/
section
variable {q : QV} {sv sv2 : SV} {a b c d : Int32} {r : Int32}
theorem ask_r0 (h : f_X10_height (none, -1, -1) q a b = some (.inr r)) : f_L_ask q sv 0 a b c d = some (r, sv) := by
  unfold f_L_ask f_L_asked
  rw [if_pos (rfl : (0 : Int32) = 0)]
  rw [h]
  rfl
theorem ask_x0_0 (h : f_X10_height (none, -1, -1) q a b = some (.inl 0)) : f_L_ask q sv 0 a b c d = some (-2002, sv) := by
  unfold f_L_ask f_L_asked
  rw [if_pos (rfl : (0 : Int32) = 0)]
  rw [h]
  rfl
theorem ask_x0_1 (h : f_X10_height (none, -1, -1) q a b = some (.inl 1)) : f_L_ask q sv 0 a b c d = some (-2003, sv) := by
  unfold f_L_ask f_L_asked
  rw [if_pos (rfl : (0 : Int32) = 0)]
  rw [h]
  rfl
theorem ask_x0_2 (h : f_X10_height (none, -1, -1) q a b = some (.inl 2)) : f_L_ask q sv 0 a b c d = some (-2004, sv) := by
  unfold f_L_ask f_L_asked
  rw [if_pos (rfl : (0 : Int32) = 0)]
  rw [h]
  rfl
theorem ask_r1 (h : f_X10_topBlock (none, -1, -1) q a b = some (.inr r)) : f_L_ask q sv 1 a b c d = some (r, sv) := by
  unfold f_L_ask f_L_asked
  rw [if_neg (show ¬ (1 : Int32) = 0 from by decide)]; rw [if_pos (rfl : (1 : Int32) = 1)]
  rw [h]
  rfl
theorem ask_x1_0 (h : f_X10_topBlock (none, -1, -1) q a b = some (.inl 0)) : f_L_ask q sv 1 a b c d = some (-2002, sv) := by
  unfold f_L_ask f_L_asked
  rw [if_neg (show ¬ (1 : Int32) = 0 from by decide)]; rw [if_pos (rfl : (1 : Int32) = 1)]
  rw [h]
  rfl
theorem ask_x1_1 (h : f_X10_topBlock (none, -1, -1) q a b = some (.inl 1)) : f_L_ask q sv 1 a b c d = some (-2003, sv) := by
  unfold f_L_ask f_L_asked
  rw [if_neg (show ¬ (1 : Int32) = 0 from by decide)]; rw [if_pos (rfl : (1 : Int32) = 1)]
  rw [h]
  rfl
theorem ask_x1_2 (h : f_X10_topBlock (none, -1, -1) q a b = some (.inl 2)) : f_L_ask q sv 1 a b c d = some (-2004, sv) := by
  unfold f_L_ask f_L_asked
  rw [if_neg (show ¬ (1 : Int32) = 0 from by decide)]; rw [if_pos (rfl : (1 : Int32) = 1)]
  rw [h]
  rfl
theorem ask_r2 (h : f_X10_cellsAt (none, -1, -1) q a = some (.inr r)) : f_L_ask q sv 2 a b c d = some (r, sv) := by
  unfold f_L_ask f_L_asked
  rw [if_neg (show ¬ (2 : Int32) = 0 from by decide)]; rw [if_neg (show ¬ (2 : Int32) = 1 from by decide)]; rw [if_pos (rfl : (2 : Int32) = 2)]
  rw [h]
  rfl
theorem ask_x2_0 (h : f_X10_cellsAt (none, -1, -1) q a = some (.inl 0)) : f_L_ask q sv 2 a b c d = some (-2002, sv) := by
  unfold f_L_ask f_L_asked
  rw [if_neg (show ¬ (2 : Int32) = 0 from by decide)]; rw [if_neg (show ¬ (2 : Int32) = 1 from by decide)]; rw [if_pos (rfl : (2 : Int32) = 2)]
  rw [h]
  rfl
theorem ask_x2_1 (h : f_X10_cellsAt (none, -1, -1) q a = some (.inl 1)) : f_L_ask q sv 2 a b c d = some (-2003, sv) := by
  unfold f_L_ask f_L_asked
  rw [if_neg (show ¬ (2 : Int32) = 0 from by decide)]; rw [if_neg (show ¬ (2 : Int32) = 1 from by decide)]; rw [if_pos (rfl : (2 : Int32) = 2)]
  rw [h]
  rfl
theorem ask_x2_2 (h : f_X10_cellsAt (none, -1, -1) q a = some (.inl 2)) : f_L_ask q sv 2 a b c d = some (-2004, sv) := by
  unfold f_L_ask f_L_asked
  rw [if_neg (show ¬ (2 : Int32) = 0 from by decide)]; rw [if_neg (show ¬ (2 : Int32) = 1 from by decide)]; rw [if_pos (rfl : (2 : Int32) = 2)]
  rw [h]
  rfl
theorem ask_r3 (h : f_X10_cutsToLower (none, -1, -1) q a b c = some (.inr r)) : f_L_ask q sv 3 a b c d = some (r, sv) := by
  unfold f_L_ask f_L_asked
  rw [if_neg (show ¬ (3 : Int32) = 0 from by decide)]; rw [if_neg (show ¬ (3 : Int32) = 1 from by decide)]; rw [if_neg (show ¬ (3 : Int32) = 2 from by decide)]; rw [if_pos (rfl : (3 : Int32) = 3)]
  rw [h]
  rfl
theorem ask_x3_0 (h : f_X10_cutsToLower (none, -1, -1) q a b c = some (.inl 0)) : f_L_ask q sv 3 a b c d = some (-2002, sv) := by
  unfold f_L_ask f_L_asked
  rw [if_neg (show ¬ (3 : Int32) = 0 from by decide)]; rw [if_neg (show ¬ (3 : Int32) = 1 from by decide)]; rw [if_neg (show ¬ (3 : Int32) = 2 from by decide)]; rw [if_pos (rfl : (3 : Int32) = 3)]
  rw [h]
  rfl
theorem ask_x3_1 (h : f_X10_cutsToLower (none, -1, -1) q a b c = some (.inl 1)) : f_L_ask q sv 3 a b c d = some (-2003, sv) := by
  unfold f_L_ask f_L_asked
  rw [if_neg (show ¬ (3 : Int32) = 0 from by decide)]; rw [if_neg (show ¬ (3 : Int32) = 1 from by decide)]; rw [if_neg (show ¬ (3 : Int32) = 2 from by decide)]; rw [if_pos (rfl : (3 : Int32) = 3)]
  rw [h]
  rfl
theorem ask_x3_2 (h : f_X10_cutsToLower (none, -1, -1) q a b c = some (.inl 2)) : f_L_ask q sv 3 a b c d = some (-2004, sv) := by
  unfold f_L_ask f_L_asked
  rw [if_neg (show ¬ (3 : Int32) = 0 from by decide)]; rw [if_neg (show ¬ (3 : Int32) = 1 from by decide)]; rw [if_neg (show ¬ (3 : Int32) = 2 from by decide)]; rw [if_pos (rfl : (3 : Int32) = 3)]
  rw [h]
  rfl
theorem ask_r4 (h : f_X10_cutsToLowerBySpreading (none, -1, -1) q sv a b c = some (.inr (r, sv2))) : f_L_ask q sv 4 a b c d = some (r, sv2) := by
  unfold f_L_ask f_L_asked
  rw [if_neg (show ¬ (4 : Int32) = 0 from by decide)]; rw [if_neg (show ¬ (4 : Int32) = 1 from by decide)]; rw [if_neg (show ¬ (4 : Int32) = 2 from by decide)]; rw [if_neg (show ¬ (4 : Int32) = 3 from by decide)]; rw [if_pos (rfl : (4 : Int32) = 4)]
  rw [h]
  rfl
theorem ask_x4_0 (h : f_X10_cutsToLowerBySpreading (none, -1, -1) q sv a b c = some (.inl (0, sv2))) : f_L_ask q sv 4 a b c d = some (-2002, sv2) := by
  unfold f_L_ask f_L_asked
  rw [if_neg (show ¬ (4 : Int32) = 0 from by decide)]; rw [if_neg (show ¬ (4 : Int32) = 1 from by decide)]; rw [if_neg (show ¬ (4 : Int32) = 2 from by decide)]; rw [if_neg (show ¬ (4 : Int32) = 3 from by decide)]; rw [if_pos (rfl : (4 : Int32) = 4)]
  rw [h]
  rfl
theorem ask_x4_1 (h : f_X10_cutsToLowerBySpreading (none, -1, -1) q sv a b c = some (.inl (1, sv2))) : f_L_ask q sv 4 a b c d = some (-2003, sv2) := by
  unfold f_L_ask f_L_asked
  rw [if_neg (show ¬ (4 : Int32) = 0 from by decide)]; rw [if_neg (show ¬ (4 : Int32) = 1 from by decide)]; rw [if_neg (show ¬ (4 : Int32) = 2 from by decide)]; rw [if_neg (show ¬ (4 : Int32) = 3 from by decide)]; rw [if_pos (rfl : (4 : Int32) = 4)]
  rw [h]
  rfl
theorem ask_x4_2 (h : f_X10_cutsToLowerBySpreading (none, -1, -1) q sv a b c = some (.inl (2, sv2))) : f_L_ask q sv 4 a b c d = some (-2004, sv2) := by
  unfold f_L_ask f_L_asked
  rw [if_neg (show ¬ (4 : Int32) = 0 from by decide)]; rw [if_neg (show ¬ (4 : Int32) = 1 from by decide)]; rw [if_neg (show ¬ (4 : Int32) = 2 from by decide)]; rw [if_neg (show ¬ (4 : Int32) = 3 from by decide)]; rw [if_pos (rfl : (4 : Int32) = 4)]
  rw [h]
  rfl
theorem ask_r5 (h : f_X10_footpath (none, -1, -1) q sv a b c d = some (.inr (r, sv2))) : f_L_ask q sv 5 a b c d = some (r, sv2) := by
  unfold f_L_ask f_L_asked
  rw [if_neg (show ¬ (5 : Int32) = 0 from by decide)]; rw [if_neg (show ¬ (5 : Int32) = 1 from by decide)]; rw [if_neg (show ¬ (5 : Int32) = 2 from by decide)]; rw [if_neg (show ¬ (5 : Int32) = 3 from by decide)]; rw [if_neg (show ¬ (5 : Int32) = 4 from by decide)]; rw [if_pos (rfl : (5 : Int32) = 5)]
  rw [h]
  rfl
theorem ask_x5_0 (h : f_X10_footpath (none, -1, -1) q sv a b c d = some (.inl (0, sv2))) : f_L_ask q sv 5 a b c d = some (-2002, sv2) := by
  unfold f_L_ask f_L_asked
  rw [if_neg (show ¬ (5 : Int32) = 0 from by decide)]; rw [if_neg (show ¬ (5 : Int32) = 1 from by decide)]; rw [if_neg (show ¬ (5 : Int32) = 2 from by decide)]; rw [if_neg (show ¬ (5 : Int32) = 3 from by decide)]; rw [if_neg (show ¬ (5 : Int32) = 4 from by decide)]; rw [if_pos (rfl : (5 : Int32) = 5)]
  rw [h]
  rfl
theorem ask_x5_1 (h : f_X10_footpath (none, -1, -1) q sv a b c d = some (.inl (1, sv2))) : f_L_ask q sv 5 a b c d = some (-2003, sv2) := by
  unfold f_L_ask f_L_asked
  rw [if_neg (show ¬ (5 : Int32) = 0 from by decide)]; rw [if_neg (show ¬ (5 : Int32) = 1 from by decide)]; rw [if_neg (show ¬ (5 : Int32) = 2 from by decide)]; rw [if_neg (show ¬ (5 : Int32) = 3 from by decide)]; rw [if_neg (show ¬ (5 : Int32) = 4 from by decide)]; rw [if_pos (rfl : (5 : Int32) = 5)]
  rw [h]
  rfl
theorem ask_x5_2 (h : f_X10_footpath (none, -1, -1) q sv a b c d = some (.inl (2, sv2))) : f_L_ask q sv 5 a b c d = some (-2004, sv2) := by
  unfold f_L_ask f_L_asked
  rw [if_neg (show ¬ (5 : Int32) = 0 from by decide)]; rw [if_neg (show ¬ (5 : Int32) = 1 from by decide)]; rw [if_neg (show ¬ (5 : Int32) = 2 from by decide)]; rw [if_neg (show ¬ (5 : Int32) = 3 from by decide)]; rw [if_neg (show ¬ (5 : Int32) = 4 from by decide)]; rw [if_pos (rfl : (5 : Int32) = 5)]
  rw [h]
  rfl
theorem ask_r6 (h : f_X10_liftableCells (none, -1, -1) q a = some (.inr r)) : f_L_ask q sv 6 a b c d = some (r, sv) := by
  unfold f_L_ask f_L_asked
  rw [if_neg (show ¬ (6 : Int32) = 0 from by decide)]; rw [if_neg (show ¬ (6 : Int32) = 1 from by decide)]; rw [if_neg (show ¬ (6 : Int32) = 2 from by decide)]; rw [if_neg (show ¬ (6 : Int32) = 3 from by decide)]; rw [if_neg (show ¬ (6 : Int32) = 4 from by decide)]; rw [if_neg (show ¬ (6 : Int32) = 5 from by decide)]; rw [if_pos (rfl : (6 : Int32) = 6)]
  rw [h]
  rfl
theorem ask_x6_0 (h : f_X10_liftableCells (none, -1, -1) q a = some (.inl 0)) : f_L_ask q sv 6 a b c d = some (-2002, sv) := by
  unfold f_L_ask f_L_asked
  rw [if_neg (show ¬ (6 : Int32) = 0 from by decide)]; rw [if_neg (show ¬ (6 : Int32) = 1 from by decide)]; rw [if_neg (show ¬ (6 : Int32) = 2 from by decide)]; rw [if_neg (show ¬ (6 : Int32) = 3 from by decide)]; rw [if_neg (show ¬ (6 : Int32) = 4 from by decide)]; rw [if_neg (show ¬ (6 : Int32) = 5 from by decide)]; rw [if_pos (rfl : (6 : Int32) = 6)]
  rw [h]
  rfl
theorem ask_x6_1 (h : f_X10_liftableCells (none, -1, -1) q a = some (.inl 1)) : f_L_ask q sv 6 a b c d = some (-2003, sv) := by
  unfold f_L_ask f_L_asked
  rw [if_neg (show ¬ (6 : Int32) = 0 from by decide)]; rw [if_neg (show ¬ (6 : Int32) = 1 from by decide)]; rw [if_neg (show ¬ (6 : Int32) = 2 from by decide)]; rw [if_neg (show ¬ (6 : Int32) = 3 from by decide)]; rw [if_neg (show ¬ (6 : Int32) = 4 from by decide)]; rw [if_neg (show ¬ (6 : Int32) = 5 from by decide)]; rw [if_pos (rfl : (6 : Int32) = 6)]
  rw [h]
  rfl
theorem ask_x6_2 (h : f_X10_liftableCells (none, -1, -1) q a = some (.inl 2)) : f_L_ask q sv 6 a b c d = some (-2004, sv) := by
  unfold f_L_ask f_L_asked
  rw [if_neg (show ¬ (6 : Int32) = 0 from by decide)]; rw [if_neg (show ¬ (6 : Int32) = 1 from by decide)]; rw [if_neg (show ¬ (6 : Int32) = 2 from by decide)]; rw [if_neg (show ¬ (6 : Int32) = 3 from by decide)]; rw [if_neg (show ¬ (6 : Int32) = 4 from by decide)]; rw [if_neg (show ¬ (6 : Int32) = 5 from by decide)]; rw [if_pos (rfl : (6 : Int32) = 6)]
  rw [h]
  rfl
theorem ask_r7 (h : f_X10_bestWinch (none, -1, -1) q a b = some (.inr r)) : f_L_ask q sv 7 a b c d = some (r, sv) := by
  unfold f_L_ask f_L_asked
  rw [if_neg (show ¬ (7 : Int32) = 0 from by decide)]; rw [if_neg (show ¬ (7 : Int32) = 1 from by decide)]; rw [if_neg (show ¬ (7 : Int32) = 2 from by decide)]; rw [if_neg (show ¬ (7 : Int32) = 3 from by decide)]; rw [if_neg (show ¬ (7 : Int32) = 4 from by decide)]; rw [if_neg (show ¬ (7 : Int32) = 5 from by decide)]; rw [if_neg (show ¬ (7 : Int32) = 6 from by decide)]; rw [if_pos (rfl : (7 : Int32) = 7)]
  rw [h]
  rfl
theorem ask_x7_0 (h : f_X10_bestWinch (none, -1, -1) q a b = some (.inl 0)) : f_L_ask q sv 7 a b c d = some (-2002, sv) := by
  unfold f_L_ask f_L_asked
  rw [if_neg (show ¬ (7 : Int32) = 0 from by decide)]; rw [if_neg (show ¬ (7 : Int32) = 1 from by decide)]; rw [if_neg (show ¬ (7 : Int32) = 2 from by decide)]; rw [if_neg (show ¬ (7 : Int32) = 3 from by decide)]; rw [if_neg (show ¬ (7 : Int32) = 4 from by decide)]; rw [if_neg (show ¬ (7 : Int32) = 5 from by decide)]; rw [if_neg (show ¬ (7 : Int32) = 6 from by decide)]; rw [if_pos (rfl : (7 : Int32) = 7)]
  rw [h]
  rfl
theorem ask_x7_1 (h : f_X10_bestWinch (none, -1, -1) q a b = some (.inl 1)) : f_L_ask q sv 7 a b c d = some (-2003, sv) := by
  unfold f_L_ask f_L_asked
  rw [if_neg (show ¬ (7 : Int32) = 0 from by decide)]; rw [if_neg (show ¬ (7 : Int32) = 1 from by decide)]; rw [if_neg (show ¬ (7 : Int32) = 2 from by decide)]; rw [if_neg (show ¬ (7 : Int32) = 3 from by decide)]; rw [if_neg (show ¬ (7 : Int32) = 4 from by decide)]; rw [if_neg (show ¬ (7 : Int32) = 5 from by decide)]; rw [if_neg (show ¬ (7 : Int32) = 6 from by decide)]; rw [if_pos (rfl : (7 : Int32) = 7)]
  rw [h]
  rfl
theorem ask_x7_2 (h : f_X10_bestWinch (none, -1, -1) q a b = some (.inl 2)) : f_L_ask q sv 7 a b c d = some (-2004, sv) := by
  unfold f_L_ask f_L_asked
  rw [if_neg (show ¬ (7 : Int32) = 0 from by decide)]; rw [if_neg (show ¬ (7 : Int32) = 1 from by decide)]; rw [if_neg (show ¬ (7 : Int32) = 2 from by decide)]; rw [if_neg (show ¬ (7 : Int32) = 3 from by decide)]; rw [if_neg (show ¬ (7 : Int32) = 4 from by decide)]; rw [if_neg (show ¬ (7 : Int32) = 5 from by decide)]; rw [if_neg (show ¬ (7 : Int32) = 6 from by decide)]; rw [if_pos (rfl : (7 : Int32) = 7)]
  rw [h]
  rfl
theorem ask_r8 (h : f_X10_inYard (none, -1, -1) q a = some (.inr r)) : f_L_ask q sv 8 a b c d = some (r, sv) := by
  unfold f_L_ask f_L_asked
  rw [if_neg (show ¬ (8 : Int32) = 0 from by decide)]; rw [if_neg (show ¬ (8 : Int32) = 1 from by decide)]; rw [if_neg (show ¬ (8 : Int32) = 2 from by decide)]; rw [if_neg (show ¬ (8 : Int32) = 3 from by decide)]; rw [if_neg (show ¬ (8 : Int32) = 4 from by decide)]; rw [if_neg (show ¬ (8 : Int32) = 5 from by decide)]; rw [if_neg (show ¬ (8 : Int32) = 6 from by decide)]; rw [if_neg (show ¬ (8 : Int32) = 7 from by decide)]; rw [if_pos (rfl : (8 : Int32) = 8)]
  rw [h]
  rfl
theorem ask_x8_0 (h : f_X10_inYard (none, -1, -1) q a = some (.inl 0)) : f_L_ask q sv 8 a b c d = some (-2002, sv) := by
  unfold f_L_ask f_L_asked
  rw [if_neg (show ¬ (8 : Int32) = 0 from by decide)]; rw [if_neg (show ¬ (8 : Int32) = 1 from by decide)]; rw [if_neg (show ¬ (8 : Int32) = 2 from by decide)]; rw [if_neg (show ¬ (8 : Int32) = 3 from by decide)]; rw [if_neg (show ¬ (8 : Int32) = 4 from by decide)]; rw [if_neg (show ¬ (8 : Int32) = 5 from by decide)]; rw [if_neg (show ¬ (8 : Int32) = 6 from by decide)]; rw [if_neg (show ¬ (8 : Int32) = 7 from by decide)]; rw [if_pos (rfl : (8 : Int32) = 8)]
  rw [h]
  rfl
theorem ask_x8_1 (h : f_X10_inYard (none, -1, -1) q a = some (.inl 1)) : f_L_ask q sv 8 a b c d = some (-2003, sv) := by
  unfold f_L_ask f_L_asked
  rw [if_neg (show ¬ (8 : Int32) = 0 from by decide)]; rw [if_neg (show ¬ (8 : Int32) = 1 from by decide)]; rw [if_neg (show ¬ (8 : Int32) = 2 from by decide)]; rw [if_neg (show ¬ (8 : Int32) = 3 from by decide)]; rw [if_neg (show ¬ (8 : Int32) = 4 from by decide)]; rw [if_neg (show ¬ (8 : Int32) = 5 from by decide)]; rw [if_neg (show ¬ (8 : Int32) = 6 from by decide)]; rw [if_neg (show ¬ (8 : Int32) = 7 from by decide)]; rw [if_pos (rfl : (8 : Int32) = 8)]
  rw [h]
  rfl
theorem ask_x8_2 (h : f_X10_inYard (none, -1, -1) q a = some (.inl 2)) : f_L_ask q sv 8 a b c d = some (-2004, sv) := by
  unfold f_L_ask f_L_asked
  rw [if_neg (show ¬ (8 : Int32) = 0 from by decide)]; rw [if_neg (show ¬ (8 : Int32) = 1 from by decide)]; rw [if_neg (show ¬ (8 : Int32) = 2 from by decide)]; rw [if_neg (show ¬ (8 : Int32) = 3 from by decide)]; rw [if_neg (show ¬ (8 : Int32) = 4 from by decide)]; rw [if_neg (show ¬ (8 : Int32) = 5 from by decide)]; rw [if_neg (show ¬ (8 : Int32) = 6 from by decide)]; rw [if_neg (show ¬ (8 : Int32) = 7 from by decide)]; rw [if_pos (rfl : (8 : Int32) = 8)]
  rw [h]
  rfl
end
