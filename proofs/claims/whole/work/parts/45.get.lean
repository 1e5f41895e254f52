/-! a reader past a writer -/
theorem qg0_0 (v : QV) (x : (Nat → Int32)) : qHeights (qSHeights x v) = x := Eq.trans rfl rfl
theorem qg0_1 (v : QV) (x : (Nat → Int32)) : qHeights (qSStones x v) = qHeights v := Eq.trans rfl rfl
theorem qg0_2 (v : QV) (x : (Nat → Int32)) : qHeights (qSLedges x v) = qHeights v := Eq.trans rfl rfl
theorem qg0_3 (v : QV) (x : (Nat → Int32)) : qHeights (qSBlockCounts x v) = qHeights v := Eq.trans rfl rfl
theorem qg0_4 (v : QV) (x : (Nat → Int32)) : qHeights (qSBlocks x v) = qHeights v := Eq.trans rfl rfl
theorem qg0_5 (v : QV) (x : (Nat → Int32)) : qHeights (qSWinchCells x v) = qHeights v := Eq.trans rfl rfl
theorem qg0_6 (v : QV) (x : (Nat → Int32)) : qHeights (qSCapacities x v) = qHeights v := Eq.trans rfl rfl
theorem qg0_7 (v : QV) (x : (Nat → Int32)) : qHeights (qSReaches x v) = qHeights v := Eq.trans rfl rfl
theorem qg0_8 (v : QV) (x : (Nat → Int32)) : qHeights (qSYard x v) = qHeights v := Eq.trans rfl rfl
theorem qg0_9 (v : QV) (x : Int32) : qHeights (qSWinches x v) = qHeights v := Eq.trans rfl rfl
theorem qg0_10 (v : QV) (x : Int32) : qHeights (qSLimit x v) = qHeights v := Eq.trans rfl rfl
theorem qg0_11 (v : QV) (x : Int32) : qHeights (qSRubble x v) = qHeights v := Eq.trans rfl rfl
theorem qg0_12 (v : QV) (x : Int32) : qHeights (qSCuts x v) = qHeights v := Eq.trans rfl rfl
theorem qg0_13 (v : QV) (x : Int32) : qHeights (qSLifts x v) = qHeights v := Eq.trans rfl rfl
theorem qg0_14 (v : QV) (x : Int64) : qHeights (qSWork x v) = qHeights v := Eq.trans rfl rfl
theorem qg1_0 (v : QV) (x : (Nat → Int32)) : qStones (qSHeights x v) = qStones v := Eq.trans rfl rfl
theorem qg1_1 (v : QV) (x : (Nat → Int32)) : qStones (qSStones x v) = x := Eq.trans rfl rfl
theorem qg1_2 (v : QV) (x : (Nat → Int32)) : qStones (qSLedges x v) = qStones v := Eq.trans rfl rfl
theorem qg1_3 (v : QV) (x : (Nat → Int32)) : qStones (qSBlockCounts x v) = qStones v := Eq.trans rfl rfl
theorem qg1_4 (v : QV) (x : (Nat → Int32)) : qStones (qSBlocks x v) = qStones v := Eq.trans rfl rfl
theorem qg1_5 (v : QV) (x : (Nat → Int32)) : qStones (qSWinchCells x v) = qStones v := Eq.trans rfl rfl
theorem qg1_6 (v : QV) (x : (Nat → Int32)) : qStones (qSCapacities x v) = qStones v := Eq.trans rfl rfl
theorem qg1_7 (v : QV) (x : (Nat → Int32)) : qStones (qSReaches x v) = qStones v := Eq.trans rfl rfl
theorem qg1_8 (v : QV) (x : (Nat → Int32)) : qStones (qSYard x v) = qStones v := Eq.trans rfl rfl
theorem qg1_9 (v : QV) (x : Int32) : qStones (qSWinches x v) = qStones v := Eq.trans rfl rfl
theorem qg1_10 (v : QV) (x : Int32) : qStones (qSLimit x v) = qStones v := Eq.trans rfl rfl
theorem qg1_11 (v : QV) (x : Int32) : qStones (qSRubble x v) = qStones v := Eq.trans rfl rfl
theorem qg1_12 (v : QV) (x : Int32) : qStones (qSCuts x v) = qStones v := Eq.trans rfl rfl
theorem qg1_13 (v : QV) (x : Int32) : qStones (qSLifts x v) = qStones v := Eq.trans rfl rfl
theorem qg1_14 (v : QV) (x : Int64) : qStones (qSWork x v) = qStones v := Eq.trans rfl rfl
theorem qg2_0 (v : QV) (x : (Nat → Int32)) : qLedges (qSHeights x v) = qLedges v := Eq.trans rfl rfl
theorem qg2_1 (v : QV) (x : (Nat → Int32)) : qLedges (qSStones x v) = qLedges v := Eq.trans rfl rfl
theorem qg2_2 (v : QV) (x : (Nat → Int32)) : qLedges (qSLedges x v) = x := Eq.trans rfl rfl
theorem qg2_3 (v : QV) (x : (Nat → Int32)) : qLedges (qSBlockCounts x v) = qLedges v := Eq.trans rfl rfl
theorem qg2_4 (v : QV) (x : (Nat → Int32)) : qLedges (qSBlocks x v) = qLedges v := Eq.trans rfl rfl
theorem qg2_5 (v : QV) (x : (Nat → Int32)) : qLedges (qSWinchCells x v) = qLedges v := Eq.trans rfl rfl
theorem qg2_6 (v : QV) (x : (Nat → Int32)) : qLedges (qSCapacities x v) = qLedges v := Eq.trans rfl rfl
theorem qg2_7 (v : QV) (x : (Nat → Int32)) : qLedges (qSReaches x v) = qLedges v := Eq.trans rfl rfl
theorem qg2_8 (v : QV) (x : (Nat → Int32)) : qLedges (qSYard x v) = qLedges v := Eq.trans rfl rfl
theorem qg2_9 (v : QV) (x : Int32) : qLedges (qSWinches x v) = qLedges v := Eq.trans rfl rfl
theorem qg2_10 (v : QV) (x : Int32) : qLedges (qSLimit x v) = qLedges v := Eq.trans rfl rfl
theorem qg2_11 (v : QV) (x : Int32) : qLedges (qSRubble x v) = qLedges v := Eq.trans rfl rfl
theorem qg2_12 (v : QV) (x : Int32) : qLedges (qSCuts x v) = qLedges v := Eq.trans rfl rfl
theorem qg2_13 (v : QV) (x : Int32) : qLedges (qSLifts x v) = qLedges v := Eq.trans rfl rfl
theorem qg2_14 (v : QV) (x : Int64) : qLedges (qSWork x v) = qLedges v := Eq.trans rfl rfl
theorem qg3_0 (v : QV) (x : (Nat → Int32)) : qBlockCounts (qSHeights x v) = qBlockCounts v := Eq.trans rfl rfl
theorem qg3_1 (v : QV) (x : (Nat → Int32)) : qBlockCounts (qSStones x v) = qBlockCounts v := Eq.trans rfl rfl
theorem qg3_2 (v : QV) (x : (Nat → Int32)) : qBlockCounts (qSLedges x v) = qBlockCounts v := Eq.trans rfl rfl
theorem qg3_3 (v : QV) (x : (Nat → Int32)) : qBlockCounts (qSBlockCounts x v) = x := Eq.trans rfl rfl
theorem qg3_4 (v : QV) (x : (Nat → Int32)) : qBlockCounts (qSBlocks x v) = qBlockCounts v := Eq.trans rfl rfl
theorem qg3_5 (v : QV) (x : (Nat → Int32)) : qBlockCounts (qSWinchCells x v) = qBlockCounts v := Eq.trans rfl rfl
theorem qg3_6 (v : QV) (x : (Nat → Int32)) : qBlockCounts (qSCapacities x v) = qBlockCounts v := Eq.trans rfl rfl
theorem qg3_7 (v : QV) (x : (Nat → Int32)) : qBlockCounts (qSReaches x v) = qBlockCounts v := Eq.trans rfl rfl
theorem qg3_8 (v : QV) (x : (Nat → Int32)) : qBlockCounts (qSYard x v) = qBlockCounts v := Eq.trans rfl rfl
theorem qg3_9 (v : QV) (x : Int32) : qBlockCounts (qSWinches x v) = qBlockCounts v := Eq.trans rfl rfl
theorem qg3_10 (v : QV) (x : Int32) : qBlockCounts (qSLimit x v) = qBlockCounts v := Eq.trans rfl rfl
theorem qg3_11 (v : QV) (x : Int32) : qBlockCounts (qSRubble x v) = qBlockCounts v := Eq.trans rfl rfl
theorem qg3_12 (v : QV) (x : Int32) : qBlockCounts (qSCuts x v) = qBlockCounts v := Eq.trans rfl rfl
theorem qg3_13 (v : QV) (x : Int32) : qBlockCounts (qSLifts x v) = qBlockCounts v := Eq.trans rfl rfl
theorem qg3_14 (v : QV) (x : Int64) : qBlockCounts (qSWork x v) = qBlockCounts v := Eq.trans rfl rfl
theorem qg4_0 (v : QV) (x : (Nat → Int32)) : qBlocks (qSHeights x v) = qBlocks v := Eq.trans rfl rfl
theorem qg4_1 (v : QV) (x : (Nat → Int32)) : qBlocks (qSStones x v) = qBlocks v := Eq.trans rfl rfl
theorem qg4_2 (v : QV) (x : (Nat → Int32)) : qBlocks (qSLedges x v) = qBlocks v := Eq.trans rfl rfl
theorem qg4_3 (v : QV) (x : (Nat → Int32)) : qBlocks (qSBlockCounts x v) = qBlocks v := Eq.trans rfl rfl
theorem qg4_4 (v : QV) (x : (Nat → Int32)) : qBlocks (qSBlocks x v) = x := Eq.trans rfl rfl
theorem qg4_5 (v : QV) (x : (Nat → Int32)) : qBlocks (qSWinchCells x v) = qBlocks v := Eq.trans rfl rfl
theorem qg4_6 (v : QV) (x : (Nat → Int32)) : qBlocks (qSCapacities x v) = qBlocks v := Eq.trans rfl rfl
theorem qg4_7 (v : QV) (x : (Nat → Int32)) : qBlocks (qSReaches x v) = qBlocks v := Eq.trans rfl rfl
theorem qg4_8 (v : QV) (x : (Nat → Int32)) : qBlocks (qSYard x v) = qBlocks v := Eq.trans rfl rfl
theorem qg4_9 (v : QV) (x : Int32) : qBlocks (qSWinches x v) = qBlocks v := Eq.trans rfl rfl
theorem qg4_10 (v : QV) (x : Int32) : qBlocks (qSLimit x v) = qBlocks v := Eq.trans rfl rfl
theorem qg4_11 (v : QV) (x : Int32) : qBlocks (qSRubble x v) = qBlocks v := Eq.trans rfl rfl
theorem qg4_12 (v : QV) (x : Int32) : qBlocks (qSCuts x v) = qBlocks v := Eq.trans rfl rfl
theorem qg4_13 (v : QV) (x : Int32) : qBlocks (qSLifts x v) = qBlocks v := Eq.trans rfl rfl
theorem qg4_14 (v : QV) (x : Int64) : qBlocks (qSWork x v) = qBlocks v := Eq.trans rfl rfl
theorem qg5_0 (v : QV) (x : (Nat → Int32)) : qWinchCells (qSHeights x v) = qWinchCells v := Eq.trans rfl rfl
theorem qg5_1 (v : QV) (x : (Nat → Int32)) : qWinchCells (qSStones x v) = qWinchCells v := Eq.trans rfl rfl
theorem qg5_2 (v : QV) (x : (Nat → Int32)) : qWinchCells (qSLedges x v) = qWinchCells v := Eq.trans rfl rfl
theorem qg5_3 (v : QV) (x : (Nat → Int32)) : qWinchCells (qSBlockCounts x v) = qWinchCells v := Eq.trans rfl rfl
theorem qg5_4 (v : QV) (x : (Nat → Int32)) : qWinchCells (qSBlocks x v) = qWinchCells v := Eq.trans rfl rfl
theorem qg5_5 (v : QV) (x : (Nat → Int32)) : qWinchCells (qSWinchCells x v) = x := Eq.trans rfl rfl
theorem qg5_6 (v : QV) (x : (Nat → Int32)) : qWinchCells (qSCapacities x v) = qWinchCells v := Eq.trans rfl rfl
theorem qg5_7 (v : QV) (x : (Nat → Int32)) : qWinchCells (qSReaches x v) = qWinchCells v := Eq.trans rfl rfl
theorem qg5_8 (v : QV) (x : (Nat → Int32)) : qWinchCells (qSYard x v) = qWinchCells v := Eq.trans rfl rfl
theorem qg5_9 (v : QV) (x : Int32) : qWinchCells (qSWinches x v) = qWinchCells v := Eq.trans rfl rfl
theorem qg5_10 (v : QV) (x : Int32) : qWinchCells (qSLimit x v) = qWinchCells v := Eq.trans rfl rfl
theorem qg5_11 (v : QV) (x : Int32) : qWinchCells (qSRubble x v) = qWinchCells v := Eq.trans rfl rfl
theorem qg5_12 (v : QV) (x : Int32) : qWinchCells (qSCuts x v) = qWinchCells v := Eq.trans rfl rfl
theorem qg5_13 (v : QV) (x : Int32) : qWinchCells (qSLifts x v) = qWinchCells v := Eq.trans rfl rfl
theorem qg5_14 (v : QV) (x : Int64) : qWinchCells (qSWork x v) = qWinchCells v := Eq.trans rfl rfl
theorem qg6_0 (v : QV) (x : (Nat → Int32)) : qCapacities (qSHeights x v) = qCapacities v := Eq.trans rfl rfl
theorem qg6_1 (v : QV) (x : (Nat → Int32)) : qCapacities (qSStones x v) = qCapacities v := Eq.trans rfl rfl
theorem qg6_2 (v : QV) (x : (Nat → Int32)) : qCapacities (qSLedges x v) = qCapacities v := Eq.trans rfl rfl
theorem qg6_3 (v : QV) (x : (Nat → Int32)) : qCapacities (qSBlockCounts x v) = qCapacities v := Eq.trans rfl rfl
theorem qg6_4 (v : QV) (x : (Nat → Int32)) : qCapacities (qSBlocks x v) = qCapacities v := Eq.trans rfl rfl
theorem qg6_5 (v : QV) (x : (Nat → Int32)) : qCapacities (qSWinchCells x v) = qCapacities v := Eq.trans rfl rfl
theorem qg6_6 (v : QV) (x : (Nat → Int32)) : qCapacities (qSCapacities x v) = x := Eq.trans rfl rfl
theorem qg6_7 (v : QV) (x : (Nat → Int32)) : qCapacities (qSReaches x v) = qCapacities v := Eq.trans rfl rfl
theorem qg6_8 (v : QV) (x : (Nat → Int32)) : qCapacities (qSYard x v) = qCapacities v := Eq.trans rfl rfl
theorem qg6_9 (v : QV) (x : Int32) : qCapacities (qSWinches x v) = qCapacities v := Eq.trans rfl rfl
theorem qg6_10 (v : QV) (x : Int32) : qCapacities (qSLimit x v) = qCapacities v := Eq.trans rfl rfl
theorem qg6_11 (v : QV) (x : Int32) : qCapacities (qSRubble x v) = qCapacities v := Eq.trans rfl rfl
theorem qg6_12 (v : QV) (x : Int32) : qCapacities (qSCuts x v) = qCapacities v := Eq.trans rfl rfl
theorem qg6_13 (v : QV) (x : Int32) : qCapacities (qSLifts x v) = qCapacities v := Eq.trans rfl rfl
theorem qg6_14 (v : QV) (x : Int64) : qCapacities (qSWork x v) = qCapacities v := Eq.trans rfl rfl
theorem qg7_0 (v : QV) (x : (Nat → Int32)) : qReaches (qSHeights x v) = qReaches v := Eq.trans rfl rfl
theorem qg7_1 (v : QV) (x : (Nat → Int32)) : qReaches (qSStones x v) = qReaches v := Eq.trans rfl rfl
theorem qg7_2 (v : QV) (x : (Nat → Int32)) : qReaches (qSLedges x v) = qReaches v := Eq.trans rfl rfl
theorem qg7_3 (v : QV) (x : (Nat → Int32)) : qReaches (qSBlockCounts x v) = qReaches v := Eq.trans rfl rfl
theorem qg7_4 (v : QV) (x : (Nat → Int32)) : qReaches (qSBlocks x v) = qReaches v := Eq.trans rfl rfl
theorem qg7_5 (v : QV) (x : (Nat → Int32)) : qReaches (qSWinchCells x v) = qReaches v := Eq.trans rfl rfl
theorem qg7_6 (v : QV) (x : (Nat → Int32)) : qReaches (qSCapacities x v) = qReaches v := Eq.trans rfl rfl
theorem qg7_7 (v : QV) (x : (Nat → Int32)) : qReaches (qSReaches x v) = x := Eq.trans rfl rfl
theorem qg7_8 (v : QV) (x : (Nat → Int32)) : qReaches (qSYard x v) = qReaches v := Eq.trans rfl rfl
theorem qg7_9 (v : QV) (x : Int32) : qReaches (qSWinches x v) = qReaches v := Eq.trans rfl rfl
theorem qg7_10 (v : QV) (x : Int32) : qReaches (qSLimit x v) = qReaches v := Eq.trans rfl rfl
theorem qg7_11 (v : QV) (x : Int32) : qReaches (qSRubble x v) = qReaches v := Eq.trans rfl rfl
theorem qg7_12 (v : QV) (x : Int32) : qReaches (qSCuts x v) = qReaches v := Eq.trans rfl rfl
theorem qg7_13 (v : QV) (x : Int32) : qReaches (qSLifts x v) = qReaches v := Eq.trans rfl rfl
theorem qg7_14 (v : QV) (x : Int64) : qReaches (qSWork x v) = qReaches v := Eq.trans rfl rfl
theorem qg8_0 (v : QV) (x : (Nat → Int32)) : qYard (qSHeights x v) = qYard v := Eq.trans rfl rfl
theorem qg8_1 (v : QV) (x : (Nat → Int32)) : qYard (qSStones x v) = qYard v := Eq.trans rfl rfl
theorem qg8_2 (v : QV) (x : (Nat → Int32)) : qYard (qSLedges x v) = qYard v := Eq.trans rfl rfl
theorem qg8_3 (v : QV) (x : (Nat → Int32)) : qYard (qSBlockCounts x v) = qYard v := Eq.trans rfl rfl
theorem qg8_4 (v : QV) (x : (Nat → Int32)) : qYard (qSBlocks x v) = qYard v := Eq.trans rfl rfl
theorem qg8_5 (v : QV) (x : (Nat → Int32)) : qYard (qSWinchCells x v) = qYard v := Eq.trans rfl rfl
theorem qg8_6 (v : QV) (x : (Nat → Int32)) : qYard (qSCapacities x v) = qYard v := Eq.trans rfl rfl
theorem qg8_7 (v : QV) (x : (Nat → Int32)) : qYard (qSReaches x v) = qYard v := Eq.trans rfl rfl
theorem qg8_8 (v : QV) (x : (Nat → Int32)) : qYard (qSYard x v) = x := Eq.trans rfl rfl
theorem qg8_9 (v : QV) (x : Int32) : qYard (qSWinches x v) = qYard v := Eq.trans rfl rfl
theorem qg8_10 (v : QV) (x : Int32) : qYard (qSLimit x v) = qYard v := Eq.trans rfl rfl
theorem qg8_11 (v : QV) (x : Int32) : qYard (qSRubble x v) = qYard v := Eq.trans rfl rfl
theorem qg8_12 (v : QV) (x : Int32) : qYard (qSCuts x v) = qYard v := Eq.trans rfl rfl
theorem qg8_13 (v : QV) (x : Int32) : qYard (qSLifts x v) = qYard v := Eq.trans rfl rfl
theorem qg8_14 (v : QV) (x : Int64) : qYard (qSWork x v) = qYard v := Eq.trans rfl rfl
theorem qg9_0 (v : QV) (x : (Nat → Int32)) : qWinches (qSHeights x v) = qWinches v := Eq.trans rfl rfl
theorem qg9_1 (v : QV) (x : (Nat → Int32)) : qWinches (qSStones x v) = qWinches v := Eq.trans rfl rfl
theorem qg9_2 (v : QV) (x : (Nat → Int32)) : qWinches (qSLedges x v) = qWinches v := Eq.trans rfl rfl
theorem qg9_3 (v : QV) (x : (Nat → Int32)) : qWinches (qSBlockCounts x v) = qWinches v := Eq.trans rfl rfl
theorem qg9_4 (v : QV) (x : (Nat → Int32)) : qWinches (qSBlocks x v) = qWinches v := Eq.trans rfl rfl
theorem qg9_5 (v : QV) (x : (Nat → Int32)) : qWinches (qSWinchCells x v) = qWinches v := Eq.trans rfl rfl
theorem qg9_6 (v : QV) (x : (Nat → Int32)) : qWinches (qSCapacities x v) = qWinches v := Eq.trans rfl rfl
theorem qg9_7 (v : QV) (x : (Nat → Int32)) : qWinches (qSReaches x v) = qWinches v := Eq.trans rfl rfl
theorem qg9_8 (v : QV) (x : (Nat → Int32)) : qWinches (qSYard x v) = qWinches v := Eq.trans rfl rfl
theorem qg9_9 (v : QV) (x : Int32) : qWinches (qSWinches x v) = x := Eq.trans rfl rfl
theorem qg9_10 (v : QV) (x : Int32) : qWinches (qSLimit x v) = qWinches v := Eq.trans rfl rfl
theorem qg9_11 (v : QV) (x : Int32) : qWinches (qSRubble x v) = qWinches v := Eq.trans rfl rfl
theorem qg9_12 (v : QV) (x : Int32) : qWinches (qSCuts x v) = qWinches v := Eq.trans rfl rfl
theorem qg9_13 (v : QV) (x : Int32) : qWinches (qSLifts x v) = qWinches v := Eq.trans rfl rfl
theorem qg9_14 (v : QV) (x : Int64) : qWinches (qSWork x v) = qWinches v := Eq.trans rfl rfl
theorem qg10_0 (v : QV) (x : (Nat → Int32)) : qLimit (qSHeights x v) = qLimit v := Eq.trans rfl rfl
theorem qg10_1 (v : QV) (x : (Nat → Int32)) : qLimit (qSStones x v) = qLimit v := Eq.trans rfl rfl
theorem qg10_2 (v : QV) (x : (Nat → Int32)) : qLimit (qSLedges x v) = qLimit v := Eq.trans rfl rfl
theorem qg10_3 (v : QV) (x : (Nat → Int32)) : qLimit (qSBlockCounts x v) = qLimit v := Eq.trans rfl rfl
theorem qg10_4 (v : QV) (x : (Nat → Int32)) : qLimit (qSBlocks x v) = qLimit v := Eq.trans rfl rfl
theorem qg10_5 (v : QV) (x : (Nat → Int32)) : qLimit (qSWinchCells x v) = qLimit v := Eq.trans rfl rfl
theorem qg10_6 (v : QV) (x : (Nat → Int32)) : qLimit (qSCapacities x v) = qLimit v := Eq.trans rfl rfl
theorem qg10_7 (v : QV) (x : (Nat → Int32)) : qLimit (qSReaches x v) = qLimit v := Eq.trans rfl rfl
theorem qg10_8 (v : QV) (x : (Nat → Int32)) : qLimit (qSYard x v) = qLimit v := Eq.trans rfl rfl
theorem qg10_9 (v : QV) (x : Int32) : qLimit (qSWinches x v) = qLimit v := Eq.trans rfl rfl
theorem qg10_10 (v : QV) (x : Int32) : qLimit (qSLimit x v) = x := Eq.trans rfl rfl
theorem qg10_11 (v : QV) (x : Int32) : qLimit (qSRubble x v) = qLimit v := Eq.trans rfl rfl
theorem qg10_12 (v : QV) (x : Int32) : qLimit (qSCuts x v) = qLimit v := Eq.trans rfl rfl
theorem qg10_13 (v : QV) (x : Int32) : qLimit (qSLifts x v) = qLimit v := Eq.trans rfl rfl
theorem qg10_14 (v : QV) (x : Int64) : qLimit (qSWork x v) = qLimit v := Eq.trans rfl rfl
theorem qg11_0 (v : QV) (x : (Nat → Int32)) : qRubble (qSHeights x v) = qRubble v := Eq.trans rfl rfl
theorem qg11_1 (v : QV) (x : (Nat → Int32)) : qRubble (qSStones x v) = qRubble v := Eq.trans rfl rfl
theorem qg11_2 (v : QV) (x : (Nat → Int32)) : qRubble (qSLedges x v) = qRubble v := Eq.trans rfl rfl
theorem qg11_3 (v : QV) (x : (Nat → Int32)) : qRubble (qSBlockCounts x v) = qRubble v := Eq.trans rfl rfl
theorem qg11_4 (v : QV) (x : (Nat → Int32)) : qRubble (qSBlocks x v) = qRubble v := Eq.trans rfl rfl
theorem qg11_5 (v : QV) (x : (Nat → Int32)) : qRubble (qSWinchCells x v) = qRubble v := Eq.trans rfl rfl
theorem qg11_6 (v : QV) (x : (Nat → Int32)) : qRubble (qSCapacities x v) = qRubble v := Eq.trans rfl rfl
theorem qg11_7 (v : QV) (x : (Nat → Int32)) : qRubble (qSReaches x v) = qRubble v := Eq.trans rfl rfl
theorem qg11_8 (v : QV) (x : (Nat → Int32)) : qRubble (qSYard x v) = qRubble v := Eq.trans rfl rfl
theorem qg11_9 (v : QV) (x : Int32) : qRubble (qSWinches x v) = qRubble v := Eq.trans rfl rfl
theorem qg11_10 (v : QV) (x : Int32) : qRubble (qSLimit x v) = qRubble v := Eq.trans rfl rfl
theorem qg11_11 (v : QV) (x : Int32) : qRubble (qSRubble x v) = x := Eq.trans rfl rfl
theorem qg11_12 (v : QV) (x : Int32) : qRubble (qSCuts x v) = qRubble v := Eq.trans rfl rfl
theorem qg11_13 (v : QV) (x : Int32) : qRubble (qSLifts x v) = qRubble v := Eq.trans rfl rfl
theorem qg11_14 (v : QV) (x : Int64) : qRubble (qSWork x v) = qRubble v := Eq.trans rfl rfl
theorem qg12_0 (v : QV) (x : (Nat → Int32)) : qCuts (qSHeights x v) = qCuts v := Eq.trans rfl rfl
theorem qg12_1 (v : QV) (x : (Nat → Int32)) : qCuts (qSStones x v) = qCuts v := Eq.trans rfl rfl
theorem qg12_2 (v : QV) (x : (Nat → Int32)) : qCuts (qSLedges x v) = qCuts v := Eq.trans rfl rfl
theorem qg12_3 (v : QV) (x : (Nat → Int32)) : qCuts (qSBlockCounts x v) = qCuts v := Eq.trans rfl rfl
theorem qg12_4 (v : QV) (x : (Nat → Int32)) : qCuts (qSBlocks x v) = qCuts v := Eq.trans rfl rfl
theorem qg12_5 (v : QV) (x : (Nat → Int32)) : qCuts (qSWinchCells x v) = qCuts v := Eq.trans rfl rfl
theorem qg12_6 (v : QV) (x : (Nat → Int32)) : qCuts (qSCapacities x v) = qCuts v := Eq.trans rfl rfl
theorem qg12_7 (v : QV) (x : (Nat → Int32)) : qCuts (qSReaches x v) = qCuts v := Eq.trans rfl rfl
theorem qg12_8 (v : QV) (x : (Nat → Int32)) : qCuts (qSYard x v) = qCuts v := Eq.trans rfl rfl
theorem qg12_9 (v : QV) (x : Int32) : qCuts (qSWinches x v) = qCuts v := Eq.trans rfl rfl
theorem qg12_10 (v : QV) (x : Int32) : qCuts (qSLimit x v) = qCuts v := Eq.trans rfl rfl
theorem qg12_11 (v : QV) (x : Int32) : qCuts (qSRubble x v) = qCuts v := Eq.trans rfl rfl
theorem qg12_12 (v : QV) (x : Int32) : qCuts (qSCuts x v) = x := Eq.trans rfl rfl
theorem qg12_13 (v : QV) (x : Int32) : qCuts (qSLifts x v) = qCuts v := Eq.trans rfl rfl
theorem qg12_14 (v : QV) (x : Int64) : qCuts (qSWork x v) = qCuts v := Eq.trans rfl rfl
theorem qg13_0 (v : QV) (x : (Nat → Int32)) : qLifts (qSHeights x v) = qLifts v := Eq.trans rfl rfl
theorem qg13_1 (v : QV) (x : (Nat → Int32)) : qLifts (qSStones x v) = qLifts v := Eq.trans rfl rfl
theorem qg13_2 (v : QV) (x : (Nat → Int32)) : qLifts (qSLedges x v) = qLifts v := Eq.trans rfl rfl
theorem qg13_3 (v : QV) (x : (Nat → Int32)) : qLifts (qSBlockCounts x v) = qLifts v := Eq.trans rfl rfl
theorem qg13_4 (v : QV) (x : (Nat → Int32)) : qLifts (qSBlocks x v) = qLifts v := Eq.trans rfl rfl
theorem qg13_5 (v : QV) (x : (Nat → Int32)) : qLifts (qSWinchCells x v) = qLifts v := Eq.trans rfl rfl
theorem qg13_6 (v : QV) (x : (Nat → Int32)) : qLifts (qSCapacities x v) = qLifts v := Eq.trans rfl rfl
theorem qg13_7 (v : QV) (x : (Nat → Int32)) : qLifts (qSReaches x v) = qLifts v := Eq.trans rfl rfl
theorem qg13_8 (v : QV) (x : (Nat → Int32)) : qLifts (qSYard x v) = qLifts v := Eq.trans rfl rfl
theorem qg13_9 (v : QV) (x : Int32) : qLifts (qSWinches x v) = qLifts v := Eq.trans rfl rfl
theorem qg13_10 (v : QV) (x : Int32) : qLifts (qSLimit x v) = qLifts v := Eq.trans rfl rfl
theorem qg13_11 (v : QV) (x : Int32) : qLifts (qSRubble x v) = qLifts v := Eq.trans rfl rfl
theorem qg13_12 (v : QV) (x : Int32) : qLifts (qSCuts x v) = qLifts v := Eq.trans rfl rfl
theorem qg13_13 (v : QV) (x : Int32) : qLifts (qSLifts x v) = x := Eq.trans rfl rfl
theorem qg13_14 (v : QV) (x : Int64) : qLifts (qSWork x v) = qLifts v := Eq.trans rfl rfl
theorem qg14_0 (v : QV) (x : (Nat → Int32)) : qWork (qSHeights x v) = qWork v := Eq.trans rfl rfl
theorem qg14_1 (v : QV) (x : (Nat → Int32)) : qWork (qSStones x v) = qWork v := Eq.trans rfl rfl
theorem qg14_2 (v : QV) (x : (Nat → Int32)) : qWork (qSLedges x v) = qWork v := Eq.trans rfl rfl
theorem qg14_3 (v : QV) (x : (Nat → Int32)) : qWork (qSBlockCounts x v) = qWork v := Eq.trans rfl rfl
theorem qg14_4 (v : QV) (x : (Nat → Int32)) : qWork (qSBlocks x v) = qWork v := Eq.trans rfl rfl
theorem qg14_5 (v : QV) (x : (Nat → Int32)) : qWork (qSWinchCells x v) = qWork v := Eq.trans rfl rfl
theorem qg14_6 (v : QV) (x : (Nat → Int32)) : qWork (qSCapacities x v) = qWork v := Eq.trans rfl rfl
theorem qg14_7 (v : QV) (x : (Nat → Int32)) : qWork (qSReaches x v) = qWork v := Eq.trans rfl rfl
theorem qg14_8 (v : QV) (x : (Nat → Int32)) : qWork (qSYard x v) = qWork v := Eq.trans rfl rfl
theorem qg14_9 (v : QV) (x : Int32) : qWork (qSWinches x v) = qWork v := Eq.trans rfl rfl
theorem qg14_10 (v : QV) (x : Int32) : qWork (qSLimit x v) = qWork v := Eq.trans rfl rfl
theorem qg14_11 (v : QV) (x : Int32) : qWork (qSRubble x v) = qWork v := Eq.trans rfl rfl
theorem qg14_12 (v : QV) (x : Int32) : qWork (qSCuts x v) = qWork v := Eq.trans rfl rfl
theorem qg14_13 (v : QV) (x : Int32) : qWork (qSLifts x v) = qWork v := Eq.trans rfl rfl
theorem qg14_14 (v : QV) (x : Int64) : qWork (qSWork x v) = x := Eq.trans rfl rfl
theorem mg0_0 (v : MV) (x : (Nat → Int32)) : mNow (mSNow x v) = x := Eq.trans rfl rfl
theorem mg0_1 (v : MV) (x : (Nat → Int32)) : mNow (mSBefore x v) = mNow v := Eq.trans rfl rfl
theorem mg0_2 (v : MV) (x : (Nat → Int32)) : mNow (mSSaved x v) = mNow v := Eq.trans rfl rfl
theorem mg0_3 (v : MV) (x : (Nat → Int32)) : mNow (mSHistory x v) = mNow v := Eq.trans rfl rfl
theorem mg0_4 (v : MV) (x : Int32) : mNow (mSIsSaved x v) = mNow v := Eq.trans rfl rfl
theorem mg0_5 (v : MV) (x : Int32) : mNow (mSRemembered x v) = mNow v := Eq.trans rfl rfl
theorem mg0_6 (v : MV) (x : Int32) : mNow (mSErrorAt x v) = mNow v := Eq.trans rfl rfl
theorem mg0_7 (v : MV) (x : Int32) : mNow (mSFailedAt x v) = mNow v := Eq.trans rfl rfl
theorem mg0_8 (v : MV) (x : (Nat → Int32)) : mNow (mSMarks x v) = mNow v := Eq.trans rfl rfl
theorem mg0_9 (v : MV) (x : (Nat → Int32)) : mNow (mSText x v) = mNow v := Eq.trans rfl rfl
theorem mg0_10 (v : MV) (x : Int32) : mNow (mSTyped x v) = mNow v := Eq.trans rfl rfl
theorem mg0_11 (v : MV) (x : (Nat → Int32)) : mNow (mSLine x v) = mNow v := Eq.trans rfl rfl
theorem mg0_12 (v : MV) (x : Int32) : mNow (mSLined x v) = mNow v := Eq.trans rfl rfl
theorem mg0_13 (v : MV) (x : Int32) : mNow (mSThrown x v) = mNow v := Eq.trans rfl rfl
theorem mg0_14 (v : MV) (x : Int32) : mNow (mSSize x v) = mNow v := Eq.trans rfl rfl
theorem mg0_15 (v : MV) (x : Int32) : mNow (mSSpot x v) = mNow v := Eq.trans rfl rfl
theorem mg0_16 (v : MV) (x : Int32) : mNow (mSWrong x v) = mNow v := Eq.trans rfl rfl
theorem mg0_17 (v : MV) (x : Int32) : mNow (mSTold x v) = mNow v := Eq.trans rfl rfl
theorem mg0_18 (v : MV) (x : (Nat → Int32)) : mNow (mSNumbers x v) = mNow v := Eq.trans rfl rfl
theorem mg1_0 (v : MV) (x : (Nat → Int32)) : mBefore (mSNow x v) = mBefore v := Eq.trans rfl rfl
theorem mg1_1 (v : MV) (x : (Nat → Int32)) : mBefore (mSBefore x v) = x := Eq.trans rfl rfl
theorem mg1_2 (v : MV) (x : (Nat → Int32)) : mBefore (mSSaved x v) = mBefore v := Eq.trans rfl rfl
theorem mg1_3 (v : MV) (x : (Nat → Int32)) : mBefore (mSHistory x v) = mBefore v := Eq.trans rfl rfl
theorem mg1_4 (v : MV) (x : Int32) : mBefore (mSIsSaved x v) = mBefore v := Eq.trans rfl rfl
theorem mg1_5 (v : MV) (x : Int32) : mBefore (mSRemembered x v) = mBefore v := Eq.trans rfl rfl
theorem mg1_6 (v : MV) (x : Int32) : mBefore (mSErrorAt x v) = mBefore v := Eq.trans rfl rfl
theorem mg1_7 (v : MV) (x : Int32) : mBefore (mSFailedAt x v) = mBefore v := Eq.trans rfl rfl
theorem mg1_8 (v : MV) (x : (Nat → Int32)) : mBefore (mSMarks x v) = mBefore v := Eq.trans rfl rfl
theorem mg1_9 (v : MV) (x : (Nat → Int32)) : mBefore (mSText x v) = mBefore v := Eq.trans rfl rfl
theorem mg1_10 (v : MV) (x : Int32) : mBefore (mSTyped x v) = mBefore v := Eq.trans rfl rfl
theorem mg1_11 (v : MV) (x : (Nat → Int32)) : mBefore (mSLine x v) = mBefore v := Eq.trans rfl rfl
theorem mg1_12 (v : MV) (x : Int32) : mBefore (mSLined x v) = mBefore v := Eq.trans rfl rfl
theorem mg1_13 (v : MV) (x : Int32) : mBefore (mSThrown x v) = mBefore v := Eq.trans rfl rfl
theorem mg1_14 (v : MV) (x : Int32) : mBefore (mSSize x v) = mBefore v := Eq.trans rfl rfl
theorem mg1_15 (v : MV) (x : Int32) : mBefore (mSSpot x v) = mBefore v := Eq.trans rfl rfl
theorem mg1_16 (v : MV) (x : Int32) : mBefore (mSWrong x v) = mBefore v := Eq.trans rfl rfl
theorem mg1_17 (v : MV) (x : Int32) : mBefore (mSTold x v) = mBefore v := Eq.trans rfl rfl
theorem mg1_18 (v : MV) (x : (Nat → Int32)) : mBefore (mSNumbers x v) = mBefore v := Eq.trans rfl rfl
theorem mg2_0 (v : MV) (x : (Nat → Int32)) : mSaved (mSNow x v) = mSaved v := Eq.trans rfl rfl
theorem mg2_1 (v : MV) (x : (Nat → Int32)) : mSaved (mSBefore x v) = mSaved v := Eq.trans rfl rfl
theorem mg2_2 (v : MV) (x : (Nat → Int32)) : mSaved (mSSaved x v) = x := Eq.trans rfl rfl
theorem mg2_3 (v : MV) (x : (Nat → Int32)) : mSaved (mSHistory x v) = mSaved v := Eq.trans rfl rfl
theorem mg2_4 (v : MV) (x : Int32) : mSaved (mSIsSaved x v) = mSaved v := Eq.trans rfl rfl
theorem mg2_5 (v : MV) (x : Int32) : mSaved (mSRemembered x v) = mSaved v := Eq.trans rfl rfl
theorem mg2_6 (v : MV) (x : Int32) : mSaved (mSErrorAt x v) = mSaved v := Eq.trans rfl rfl
theorem mg2_7 (v : MV) (x : Int32) : mSaved (mSFailedAt x v) = mSaved v := Eq.trans rfl rfl
theorem mg2_8 (v : MV) (x : (Nat → Int32)) : mSaved (mSMarks x v) = mSaved v := Eq.trans rfl rfl
theorem mg2_9 (v : MV) (x : (Nat → Int32)) : mSaved (mSText x v) = mSaved v := Eq.trans rfl rfl
theorem mg2_10 (v : MV) (x : Int32) : mSaved (mSTyped x v) = mSaved v := Eq.trans rfl rfl
theorem mg2_11 (v : MV) (x : (Nat → Int32)) : mSaved (mSLine x v) = mSaved v := Eq.trans rfl rfl
theorem mg2_12 (v : MV) (x : Int32) : mSaved (mSLined x v) = mSaved v := Eq.trans rfl rfl
theorem mg2_13 (v : MV) (x : Int32) : mSaved (mSThrown x v) = mSaved v := Eq.trans rfl rfl
theorem mg2_14 (v : MV) (x : Int32) : mSaved (mSSize x v) = mSaved v := Eq.trans rfl rfl
theorem mg2_15 (v : MV) (x : Int32) : mSaved (mSSpot x v) = mSaved v := Eq.trans rfl rfl
theorem mg2_16 (v : MV) (x : Int32) : mSaved (mSWrong x v) = mSaved v := Eq.trans rfl rfl
theorem mg2_17 (v : MV) (x : Int32) : mSaved (mSTold x v) = mSaved v := Eq.trans rfl rfl
theorem mg2_18 (v : MV) (x : (Nat → Int32)) : mSaved (mSNumbers x v) = mSaved v := Eq.trans rfl rfl
theorem mg3_0 (v : MV) (x : (Nat → Int32)) : mHistory (mSNow x v) = mHistory v := Eq.trans rfl rfl
theorem mg3_1 (v : MV) (x : (Nat → Int32)) : mHistory (mSBefore x v) = mHistory v := Eq.trans rfl rfl
theorem mg3_2 (v : MV) (x : (Nat → Int32)) : mHistory (mSSaved x v) = mHistory v := Eq.trans rfl rfl
theorem mg3_3 (v : MV) (x : (Nat → Int32)) : mHistory (mSHistory x v) = x := Eq.trans rfl rfl
theorem mg3_4 (v : MV) (x : Int32) : mHistory (mSIsSaved x v) = mHistory v := Eq.trans rfl rfl
theorem mg3_5 (v : MV) (x : Int32) : mHistory (mSRemembered x v) = mHistory v := Eq.trans rfl rfl
theorem mg3_6 (v : MV) (x : Int32) : mHistory (mSErrorAt x v) = mHistory v := Eq.trans rfl rfl
theorem mg3_7 (v : MV) (x : Int32) : mHistory (mSFailedAt x v) = mHistory v := Eq.trans rfl rfl
theorem mg3_8 (v : MV) (x : (Nat → Int32)) : mHistory (mSMarks x v) = mHistory v := Eq.trans rfl rfl
theorem mg3_9 (v : MV) (x : (Nat → Int32)) : mHistory (mSText x v) = mHistory v := Eq.trans rfl rfl
theorem mg3_10 (v : MV) (x : Int32) : mHistory (mSTyped x v) = mHistory v := Eq.trans rfl rfl
theorem mg3_11 (v : MV) (x : (Nat → Int32)) : mHistory (mSLine x v) = mHistory v := Eq.trans rfl rfl
theorem mg3_12 (v : MV) (x : Int32) : mHistory (mSLined x v) = mHistory v := Eq.trans rfl rfl
theorem mg3_13 (v : MV) (x : Int32) : mHistory (mSThrown x v) = mHistory v := Eq.trans rfl rfl
theorem mg3_14 (v : MV) (x : Int32) : mHistory (mSSize x v) = mHistory v := Eq.trans rfl rfl
theorem mg3_15 (v : MV) (x : Int32) : mHistory (mSSpot x v) = mHistory v := Eq.trans rfl rfl
theorem mg3_16 (v : MV) (x : Int32) : mHistory (mSWrong x v) = mHistory v := Eq.trans rfl rfl
theorem mg3_17 (v : MV) (x : Int32) : mHistory (mSTold x v) = mHistory v := Eq.trans rfl rfl
theorem mg3_18 (v : MV) (x : (Nat → Int32)) : mHistory (mSNumbers x v) = mHistory v := Eq.trans rfl rfl
theorem mg4_0 (v : MV) (x : (Nat → Int32)) : mIsSaved (mSNow x v) = mIsSaved v := Eq.trans rfl rfl
theorem mg4_1 (v : MV) (x : (Nat → Int32)) : mIsSaved (mSBefore x v) = mIsSaved v := Eq.trans rfl rfl
theorem mg4_2 (v : MV) (x : (Nat → Int32)) : mIsSaved (mSSaved x v) = mIsSaved v := Eq.trans rfl rfl
theorem mg4_3 (v : MV) (x : (Nat → Int32)) : mIsSaved (mSHistory x v) = mIsSaved v := Eq.trans rfl rfl
theorem mg4_4 (v : MV) (x : Int32) : mIsSaved (mSIsSaved x v) = x := Eq.trans rfl rfl
theorem mg4_5 (v : MV) (x : Int32) : mIsSaved (mSRemembered x v) = mIsSaved v := Eq.trans rfl rfl
theorem mg4_6 (v : MV) (x : Int32) : mIsSaved (mSErrorAt x v) = mIsSaved v := Eq.trans rfl rfl
theorem mg4_7 (v : MV) (x : Int32) : mIsSaved (mSFailedAt x v) = mIsSaved v := Eq.trans rfl rfl
theorem mg4_8 (v : MV) (x : (Nat → Int32)) : mIsSaved (mSMarks x v) = mIsSaved v := Eq.trans rfl rfl
theorem mg4_9 (v : MV) (x : (Nat → Int32)) : mIsSaved (mSText x v) = mIsSaved v := Eq.trans rfl rfl
theorem mg4_10 (v : MV) (x : Int32) : mIsSaved (mSTyped x v) = mIsSaved v := Eq.trans rfl rfl
theorem mg4_11 (v : MV) (x : (Nat → Int32)) : mIsSaved (mSLine x v) = mIsSaved v := Eq.trans rfl rfl
theorem mg4_12 (v : MV) (x : Int32) : mIsSaved (mSLined x v) = mIsSaved v := Eq.trans rfl rfl
theorem mg4_13 (v : MV) (x : Int32) : mIsSaved (mSThrown x v) = mIsSaved v := Eq.trans rfl rfl
theorem mg4_14 (v : MV) (x : Int32) : mIsSaved (mSSize x v) = mIsSaved v := Eq.trans rfl rfl
theorem mg4_15 (v : MV) (x : Int32) : mIsSaved (mSSpot x v) = mIsSaved v := Eq.trans rfl rfl
theorem mg4_16 (v : MV) (x : Int32) : mIsSaved (mSWrong x v) = mIsSaved v := Eq.trans rfl rfl
theorem mg4_17 (v : MV) (x : Int32) : mIsSaved (mSTold x v) = mIsSaved v := Eq.trans rfl rfl
theorem mg4_18 (v : MV) (x : (Nat → Int32)) : mIsSaved (mSNumbers x v) = mIsSaved v := Eq.trans rfl rfl
theorem mg5_0 (v : MV) (x : (Nat → Int32)) : mRemembered (mSNow x v) = mRemembered v := Eq.trans rfl rfl
theorem mg5_1 (v : MV) (x : (Nat → Int32)) : mRemembered (mSBefore x v) = mRemembered v := Eq.trans rfl rfl
theorem mg5_2 (v : MV) (x : (Nat → Int32)) : mRemembered (mSSaved x v) = mRemembered v := Eq.trans rfl rfl
theorem mg5_3 (v : MV) (x : (Nat → Int32)) : mRemembered (mSHistory x v) = mRemembered v := Eq.trans rfl rfl
theorem mg5_4 (v : MV) (x : Int32) : mRemembered (mSIsSaved x v) = mRemembered v := Eq.trans rfl rfl
theorem mg5_5 (v : MV) (x : Int32) : mRemembered (mSRemembered x v) = x := Eq.trans rfl rfl
theorem mg5_6 (v : MV) (x : Int32) : mRemembered (mSErrorAt x v) = mRemembered v := Eq.trans rfl rfl
theorem mg5_7 (v : MV) (x : Int32) : mRemembered (mSFailedAt x v) = mRemembered v := Eq.trans rfl rfl
theorem mg5_8 (v : MV) (x : (Nat → Int32)) : mRemembered (mSMarks x v) = mRemembered v := Eq.trans rfl rfl
theorem mg5_9 (v : MV) (x : (Nat → Int32)) : mRemembered (mSText x v) = mRemembered v := Eq.trans rfl rfl
theorem mg5_10 (v : MV) (x : Int32) : mRemembered (mSTyped x v) = mRemembered v := Eq.trans rfl rfl
theorem mg5_11 (v : MV) (x : (Nat → Int32)) : mRemembered (mSLine x v) = mRemembered v := Eq.trans rfl rfl
theorem mg5_12 (v : MV) (x : Int32) : mRemembered (mSLined x v) = mRemembered v := Eq.trans rfl rfl
theorem mg5_13 (v : MV) (x : Int32) : mRemembered (mSThrown x v) = mRemembered v := Eq.trans rfl rfl
theorem mg5_14 (v : MV) (x : Int32) : mRemembered (mSSize x v) = mRemembered v := Eq.trans rfl rfl
theorem mg5_15 (v : MV) (x : Int32) : mRemembered (mSSpot x v) = mRemembered v := Eq.trans rfl rfl
theorem mg5_16 (v : MV) (x : Int32) : mRemembered (mSWrong x v) = mRemembered v := Eq.trans rfl rfl
theorem mg5_17 (v : MV) (x : Int32) : mRemembered (mSTold x v) = mRemembered v := Eq.trans rfl rfl
theorem mg5_18 (v : MV) (x : (Nat → Int32)) : mRemembered (mSNumbers x v) = mRemembered v := Eq.trans rfl rfl
theorem mg6_0 (v : MV) (x : (Nat → Int32)) : mErrorAt (mSNow x v) = mErrorAt v := Eq.trans rfl rfl
theorem mg6_1 (v : MV) (x : (Nat → Int32)) : mErrorAt (mSBefore x v) = mErrorAt v := Eq.trans rfl rfl
theorem mg6_2 (v : MV) (x : (Nat → Int32)) : mErrorAt (mSSaved x v) = mErrorAt v := Eq.trans rfl rfl
theorem mg6_3 (v : MV) (x : (Nat → Int32)) : mErrorAt (mSHistory x v) = mErrorAt v := Eq.trans rfl rfl
theorem mg6_4 (v : MV) (x : Int32) : mErrorAt (mSIsSaved x v) = mErrorAt v := Eq.trans rfl rfl
theorem mg6_5 (v : MV) (x : Int32) : mErrorAt (mSRemembered x v) = mErrorAt v := Eq.trans rfl rfl
theorem mg6_6 (v : MV) (x : Int32) : mErrorAt (mSErrorAt x v) = x := Eq.trans rfl rfl
theorem mg6_7 (v : MV) (x : Int32) : mErrorAt (mSFailedAt x v) = mErrorAt v := Eq.trans rfl rfl
theorem mg6_8 (v : MV) (x : (Nat → Int32)) : mErrorAt (mSMarks x v) = mErrorAt v := Eq.trans rfl rfl
theorem mg6_9 (v : MV) (x : (Nat → Int32)) : mErrorAt (mSText x v) = mErrorAt v := Eq.trans rfl rfl
theorem mg6_10 (v : MV) (x : Int32) : mErrorAt (mSTyped x v) = mErrorAt v := Eq.trans rfl rfl
theorem mg6_11 (v : MV) (x : (Nat → Int32)) : mErrorAt (mSLine x v) = mErrorAt v := Eq.trans rfl rfl
theorem mg6_12 (v : MV) (x : Int32) : mErrorAt (mSLined x v) = mErrorAt v := Eq.trans rfl rfl
theorem mg6_13 (v : MV) (x : Int32) : mErrorAt (mSThrown x v) = mErrorAt v := Eq.trans rfl rfl
theorem mg6_14 (v : MV) (x : Int32) : mErrorAt (mSSize x v) = mErrorAt v := Eq.trans rfl rfl
theorem mg6_15 (v : MV) (x : Int32) : mErrorAt (mSSpot x v) = mErrorAt v := Eq.trans rfl rfl
theorem mg6_16 (v : MV) (x : Int32) : mErrorAt (mSWrong x v) = mErrorAt v := Eq.trans rfl rfl
theorem mg6_17 (v : MV) (x : Int32) : mErrorAt (mSTold x v) = mErrorAt v := Eq.trans rfl rfl
theorem mg6_18 (v : MV) (x : (Nat → Int32)) : mErrorAt (mSNumbers x v) = mErrorAt v := Eq.trans rfl rfl
theorem mg7_0 (v : MV) (x : (Nat → Int32)) : mFailedAt (mSNow x v) = mFailedAt v := Eq.trans rfl rfl
theorem mg7_1 (v : MV) (x : (Nat → Int32)) : mFailedAt (mSBefore x v) = mFailedAt v := Eq.trans rfl rfl
theorem mg7_2 (v : MV) (x : (Nat → Int32)) : mFailedAt (mSSaved x v) = mFailedAt v := Eq.trans rfl rfl
theorem mg7_3 (v : MV) (x : (Nat → Int32)) : mFailedAt (mSHistory x v) = mFailedAt v := Eq.trans rfl rfl
theorem mg7_4 (v : MV) (x : Int32) : mFailedAt (mSIsSaved x v) = mFailedAt v := Eq.trans rfl rfl
theorem mg7_5 (v : MV) (x : Int32) : mFailedAt (mSRemembered x v) = mFailedAt v := Eq.trans rfl rfl
theorem mg7_6 (v : MV) (x : Int32) : mFailedAt (mSErrorAt x v) = mFailedAt v := Eq.trans rfl rfl
theorem mg7_7 (v : MV) (x : Int32) : mFailedAt (mSFailedAt x v) = x := Eq.trans rfl rfl
theorem mg7_8 (v : MV) (x : (Nat → Int32)) : mFailedAt (mSMarks x v) = mFailedAt v := Eq.trans rfl rfl
theorem mg7_9 (v : MV) (x : (Nat → Int32)) : mFailedAt (mSText x v) = mFailedAt v := Eq.trans rfl rfl
theorem mg7_10 (v : MV) (x : Int32) : mFailedAt (mSTyped x v) = mFailedAt v := Eq.trans rfl rfl
theorem mg7_11 (v : MV) (x : (Nat → Int32)) : mFailedAt (mSLine x v) = mFailedAt v := Eq.trans rfl rfl
theorem mg7_12 (v : MV) (x : Int32) : mFailedAt (mSLined x v) = mFailedAt v := Eq.trans rfl rfl
theorem mg7_13 (v : MV) (x : Int32) : mFailedAt (mSThrown x v) = mFailedAt v := Eq.trans rfl rfl
theorem mg7_14 (v : MV) (x : Int32) : mFailedAt (mSSize x v) = mFailedAt v := Eq.trans rfl rfl
theorem mg7_15 (v : MV) (x : Int32) : mFailedAt (mSSpot x v) = mFailedAt v := Eq.trans rfl rfl
theorem mg7_16 (v : MV) (x : Int32) : mFailedAt (mSWrong x v) = mFailedAt v := Eq.trans rfl rfl
theorem mg7_17 (v : MV) (x : Int32) : mFailedAt (mSTold x v) = mFailedAt v := Eq.trans rfl rfl
theorem mg7_18 (v : MV) (x : (Nat → Int32)) : mFailedAt (mSNumbers x v) = mFailedAt v := Eq.trans rfl rfl
theorem mg8_0 (v : MV) (x : (Nat → Int32)) : mMarks (mSNow x v) = mMarks v := Eq.trans rfl rfl
theorem mg8_1 (v : MV) (x : (Nat → Int32)) : mMarks (mSBefore x v) = mMarks v := Eq.trans rfl rfl
theorem mg8_2 (v : MV) (x : (Nat → Int32)) : mMarks (mSSaved x v) = mMarks v := Eq.trans rfl rfl
theorem mg8_3 (v : MV) (x : (Nat → Int32)) : mMarks (mSHistory x v) = mMarks v := Eq.trans rfl rfl
theorem mg8_4 (v : MV) (x : Int32) : mMarks (mSIsSaved x v) = mMarks v := Eq.trans rfl rfl
theorem mg8_5 (v : MV) (x : Int32) : mMarks (mSRemembered x v) = mMarks v := Eq.trans rfl rfl
theorem mg8_6 (v : MV) (x : Int32) : mMarks (mSErrorAt x v) = mMarks v := Eq.trans rfl rfl
theorem mg8_7 (v : MV) (x : Int32) : mMarks (mSFailedAt x v) = mMarks v := Eq.trans rfl rfl
theorem mg8_8 (v : MV) (x : (Nat → Int32)) : mMarks (mSMarks x v) = x := Eq.trans rfl rfl
theorem mg8_9 (v : MV) (x : (Nat → Int32)) : mMarks (mSText x v) = mMarks v := Eq.trans rfl rfl
theorem mg8_10 (v : MV) (x : Int32) : mMarks (mSTyped x v) = mMarks v := Eq.trans rfl rfl
theorem mg8_11 (v : MV) (x : (Nat → Int32)) : mMarks (mSLine x v) = mMarks v := Eq.trans rfl rfl
theorem mg8_12 (v : MV) (x : Int32) : mMarks (mSLined x v) = mMarks v := Eq.trans rfl rfl
theorem mg8_13 (v : MV) (x : Int32) : mMarks (mSThrown x v) = mMarks v := Eq.trans rfl rfl
theorem mg8_14 (v : MV) (x : Int32) : mMarks (mSSize x v) = mMarks v := Eq.trans rfl rfl
theorem mg8_15 (v : MV) (x : Int32) : mMarks (mSSpot x v) = mMarks v := Eq.trans rfl rfl
theorem mg8_16 (v : MV) (x : Int32) : mMarks (mSWrong x v) = mMarks v := Eq.trans rfl rfl
theorem mg8_17 (v : MV) (x : Int32) : mMarks (mSTold x v) = mMarks v := Eq.trans rfl rfl
theorem mg8_18 (v : MV) (x : (Nat → Int32)) : mMarks (mSNumbers x v) = mMarks v := Eq.trans rfl rfl
theorem mg9_0 (v : MV) (x : (Nat → Int32)) : mText (mSNow x v) = mText v := Eq.trans rfl rfl
theorem mg9_1 (v : MV) (x : (Nat → Int32)) : mText (mSBefore x v) = mText v := Eq.trans rfl rfl
theorem mg9_2 (v : MV) (x : (Nat → Int32)) : mText (mSSaved x v) = mText v := Eq.trans rfl rfl
theorem mg9_3 (v : MV) (x : (Nat → Int32)) : mText (mSHistory x v) = mText v := Eq.trans rfl rfl
theorem mg9_4 (v : MV) (x : Int32) : mText (mSIsSaved x v) = mText v := Eq.trans rfl rfl
theorem mg9_5 (v : MV) (x : Int32) : mText (mSRemembered x v) = mText v := Eq.trans rfl rfl
theorem mg9_6 (v : MV) (x : Int32) : mText (mSErrorAt x v) = mText v := Eq.trans rfl rfl
theorem mg9_7 (v : MV) (x : Int32) : mText (mSFailedAt x v) = mText v := Eq.trans rfl rfl
theorem mg9_8 (v : MV) (x : (Nat → Int32)) : mText (mSMarks x v) = mText v := Eq.trans rfl rfl
theorem mg9_9 (v : MV) (x : (Nat → Int32)) : mText (mSText x v) = x := Eq.trans rfl rfl
theorem mg9_10 (v : MV) (x : Int32) : mText (mSTyped x v) = mText v := Eq.trans rfl rfl
theorem mg9_11 (v : MV) (x : (Nat → Int32)) : mText (mSLine x v) = mText v := Eq.trans rfl rfl
theorem mg9_12 (v : MV) (x : Int32) : mText (mSLined x v) = mText v := Eq.trans rfl rfl
theorem mg9_13 (v : MV) (x : Int32) : mText (mSThrown x v) = mText v := Eq.trans rfl rfl
theorem mg9_14 (v : MV) (x : Int32) : mText (mSSize x v) = mText v := Eq.trans rfl rfl
theorem mg9_15 (v : MV) (x : Int32) : mText (mSSpot x v) = mText v := Eq.trans rfl rfl
theorem mg9_16 (v : MV) (x : Int32) : mText (mSWrong x v) = mText v := Eq.trans rfl rfl
theorem mg9_17 (v : MV) (x : Int32) : mText (mSTold x v) = mText v := Eq.trans rfl rfl
theorem mg9_18 (v : MV) (x : (Nat → Int32)) : mText (mSNumbers x v) = mText v := Eq.trans rfl rfl
theorem mg10_0 (v : MV) (x : (Nat → Int32)) : mTyped (mSNow x v) = mTyped v := Eq.trans rfl rfl
theorem mg10_1 (v : MV) (x : (Nat → Int32)) : mTyped (mSBefore x v) = mTyped v := Eq.trans rfl rfl
theorem mg10_2 (v : MV) (x : (Nat → Int32)) : mTyped (mSSaved x v) = mTyped v := Eq.trans rfl rfl
theorem mg10_3 (v : MV) (x : (Nat → Int32)) : mTyped (mSHistory x v) = mTyped v := Eq.trans rfl rfl
theorem mg10_4 (v : MV) (x : Int32) : mTyped (mSIsSaved x v) = mTyped v := Eq.trans rfl rfl
theorem mg10_5 (v : MV) (x : Int32) : mTyped (mSRemembered x v) = mTyped v := Eq.trans rfl rfl
theorem mg10_6 (v : MV) (x : Int32) : mTyped (mSErrorAt x v) = mTyped v := Eq.trans rfl rfl
theorem mg10_7 (v : MV) (x : Int32) : mTyped (mSFailedAt x v) = mTyped v := Eq.trans rfl rfl
theorem mg10_8 (v : MV) (x : (Nat → Int32)) : mTyped (mSMarks x v) = mTyped v := Eq.trans rfl rfl
theorem mg10_9 (v : MV) (x : (Nat → Int32)) : mTyped (mSText x v) = mTyped v := Eq.trans rfl rfl
theorem mg10_10 (v : MV) (x : Int32) : mTyped (mSTyped x v) = x := Eq.trans rfl rfl
theorem mg10_11 (v : MV) (x : (Nat → Int32)) : mTyped (mSLine x v) = mTyped v := Eq.trans rfl rfl
theorem mg10_12 (v : MV) (x : Int32) : mTyped (mSLined x v) = mTyped v := Eq.trans rfl rfl
theorem mg10_13 (v : MV) (x : Int32) : mTyped (mSThrown x v) = mTyped v := Eq.trans rfl rfl
theorem mg10_14 (v : MV) (x : Int32) : mTyped (mSSize x v) = mTyped v := Eq.trans rfl rfl
theorem mg10_15 (v : MV) (x : Int32) : mTyped (mSSpot x v) = mTyped v := Eq.trans rfl rfl
theorem mg10_16 (v : MV) (x : Int32) : mTyped (mSWrong x v) = mTyped v := Eq.trans rfl rfl
theorem mg10_17 (v : MV) (x : Int32) : mTyped (mSTold x v) = mTyped v := Eq.trans rfl rfl
theorem mg10_18 (v : MV) (x : (Nat → Int32)) : mTyped (mSNumbers x v) = mTyped v := Eq.trans rfl rfl
theorem mg11_0 (v : MV) (x : (Nat → Int32)) : mLine (mSNow x v) = mLine v := Eq.trans rfl rfl
theorem mg11_1 (v : MV) (x : (Nat → Int32)) : mLine (mSBefore x v) = mLine v := Eq.trans rfl rfl
theorem mg11_2 (v : MV) (x : (Nat → Int32)) : mLine (mSSaved x v) = mLine v := Eq.trans rfl rfl
theorem mg11_3 (v : MV) (x : (Nat → Int32)) : mLine (mSHistory x v) = mLine v := Eq.trans rfl rfl
theorem mg11_4 (v : MV) (x : Int32) : mLine (mSIsSaved x v) = mLine v := Eq.trans rfl rfl
theorem mg11_5 (v : MV) (x : Int32) : mLine (mSRemembered x v) = mLine v := Eq.trans rfl rfl
theorem mg11_6 (v : MV) (x : Int32) : mLine (mSErrorAt x v) = mLine v := Eq.trans rfl rfl
theorem mg11_7 (v : MV) (x : Int32) : mLine (mSFailedAt x v) = mLine v := Eq.trans rfl rfl
theorem mg11_8 (v : MV) (x : (Nat → Int32)) : mLine (mSMarks x v) = mLine v := Eq.trans rfl rfl
theorem mg11_9 (v : MV) (x : (Nat → Int32)) : mLine (mSText x v) = mLine v := Eq.trans rfl rfl
theorem mg11_10 (v : MV) (x : Int32) : mLine (mSTyped x v) = mLine v := Eq.trans rfl rfl
theorem mg11_11 (v : MV) (x : (Nat → Int32)) : mLine (mSLine x v) = x := Eq.trans rfl rfl
theorem mg11_12 (v : MV) (x : Int32) : mLine (mSLined x v) = mLine v := Eq.trans rfl rfl
theorem mg11_13 (v : MV) (x : Int32) : mLine (mSThrown x v) = mLine v := Eq.trans rfl rfl
theorem mg11_14 (v : MV) (x : Int32) : mLine (mSSize x v) = mLine v := Eq.trans rfl rfl
theorem mg11_15 (v : MV) (x : Int32) : mLine (mSSpot x v) = mLine v := Eq.trans rfl rfl
theorem mg11_16 (v : MV) (x : Int32) : mLine (mSWrong x v) = mLine v := Eq.trans rfl rfl
theorem mg11_17 (v : MV) (x : Int32) : mLine (mSTold x v) = mLine v := Eq.trans rfl rfl
theorem mg11_18 (v : MV) (x : (Nat → Int32)) : mLine (mSNumbers x v) = mLine v := Eq.trans rfl rfl
theorem mg12_0 (v : MV) (x : (Nat → Int32)) : mLined (mSNow x v) = mLined v := Eq.trans rfl rfl
theorem mg12_1 (v : MV) (x : (Nat → Int32)) : mLined (mSBefore x v) = mLined v := Eq.trans rfl rfl
theorem mg12_2 (v : MV) (x : (Nat → Int32)) : mLined (mSSaved x v) = mLined v := Eq.trans rfl rfl
theorem mg12_3 (v : MV) (x : (Nat → Int32)) : mLined (mSHistory x v) = mLined v := Eq.trans rfl rfl
theorem mg12_4 (v : MV) (x : Int32) : mLined (mSIsSaved x v) = mLined v := Eq.trans rfl rfl
theorem mg12_5 (v : MV) (x : Int32) : mLined (mSRemembered x v) = mLined v := Eq.trans rfl rfl
theorem mg12_6 (v : MV) (x : Int32) : mLined (mSErrorAt x v) = mLined v := Eq.trans rfl rfl
theorem mg12_7 (v : MV) (x : Int32) : mLined (mSFailedAt x v) = mLined v := Eq.trans rfl rfl
theorem mg12_8 (v : MV) (x : (Nat → Int32)) : mLined (mSMarks x v) = mLined v := Eq.trans rfl rfl
theorem mg12_9 (v : MV) (x : (Nat → Int32)) : mLined (mSText x v) = mLined v := Eq.trans rfl rfl
theorem mg12_10 (v : MV) (x : Int32) : mLined (mSTyped x v) = mLined v := Eq.trans rfl rfl
theorem mg12_11 (v : MV) (x : (Nat → Int32)) : mLined (mSLine x v) = mLined v := Eq.trans rfl rfl
theorem mg12_12 (v : MV) (x : Int32) : mLined (mSLined x v) = x := Eq.trans rfl rfl
theorem mg12_13 (v : MV) (x : Int32) : mLined (mSThrown x v) = mLined v := Eq.trans rfl rfl
theorem mg12_14 (v : MV) (x : Int32) : mLined (mSSize x v) = mLined v := Eq.trans rfl rfl
theorem mg12_15 (v : MV) (x : Int32) : mLined (mSSpot x v) = mLined v := Eq.trans rfl rfl
theorem mg12_16 (v : MV) (x : Int32) : mLined (mSWrong x v) = mLined v := Eq.trans rfl rfl
theorem mg12_17 (v : MV) (x : Int32) : mLined (mSTold x v) = mLined v := Eq.trans rfl rfl
theorem mg12_18 (v : MV) (x : (Nat → Int32)) : mLined (mSNumbers x v) = mLined v := Eq.trans rfl rfl
theorem mg13_0 (v : MV) (x : (Nat → Int32)) : mThrown (mSNow x v) = mThrown v := Eq.trans rfl rfl
theorem mg13_1 (v : MV) (x : (Nat → Int32)) : mThrown (mSBefore x v) = mThrown v := Eq.trans rfl rfl
theorem mg13_2 (v : MV) (x : (Nat → Int32)) : mThrown (mSSaved x v) = mThrown v := Eq.trans rfl rfl
theorem mg13_3 (v : MV) (x : (Nat → Int32)) : mThrown (mSHistory x v) = mThrown v := Eq.trans rfl rfl
theorem mg13_4 (v : MV) (x : Int32) : mThrown (mSIsSaved x v) = mThrown v := Eq.trans rfl rfl
theorem mg13_5 (v : MV) (x : Int32) : mThrown (mSRemembered x v) = mThrown v := Eq.trans rfl rfl
theorem mg13_6 (v : MV) (x : Int32) : mThrown (mSErrorAt x v) = mThrown v := Eq.trans rfl rfl
theorem mg13_7 (v : MV) (x : Int32) : mThrown (mSFailedAt x v) = mThrown v := Eq.trans rfl rfl
theorem mg13_8 (v : MV) (x : (Nat → Int32)) : mThrown (mSMarks x v) = mThrown v := Eq.trans rfl rfl
theorem mg13_9 (v : MV) (x : (Nat → Int32)) : mThrown (mSText x v) = mThrown v := Eq.trans rfl rfl
theorem mg13_10 (v : MV) (x : Int32) : mThrown (mSTyped x v) = mThrown v := Eq.trans rfl rfl
theorem mg13_11 (v : MV) (x : (Nat → Int32)) : mThrown (mSLine x v) = mThrown v := Eq.trans rfl rfl
theorem mg13_12 (v : MV) (x : Int32) : mThrown (mSLined x v) = mThrown v := Eq.trans rfl rfl
theorem mg13_13 (v : MV) (x : Int32) : mThrown (mSThrown x v) = x := Eq.trans rfl rfl
theorem mg13_14 (v : MV) (x : Int32) : mThrown (mSSize x v) = mThrown v := Eq.trans rfl rfl
theorem mg13_15 (v : MV) (x : Int32) : mThrown (mSSpot x v) = mThrown v := Eq.trans rfl rfl
theorem mg13_16 (v : MV) (x : Int32) : mThrown (mSWrong x v) = mThrown v := Eq.trans rfl rfl
theorem mg13_17 (v : MV) (x : Int32) : mThrown (mSTold x v) = mThrown v := Eq.trans rfl rfl
theorem mg13_18 (v : MV) (x : (Nat → Int32)) : mThrown (mSNumbers x v) = mThrown v := Eq.trans rfl rfl
theorem mg14_0 (v : MV) (x : (Nat → Int32)) : mSize (mSNow x v) = mSize v := Eq.trans rfl rfl
theorem mg14_1 (v : MV) (x : (Nat → Int32)) : mSize (mSBefore x v) = mSize v := Eq.trans rfl rfl
theorem mg14_2 (v : MV) (x : (Nat → Int32)) : mSize (mSSaved x v) = mSize v := Eq.trans rfl rfl
theorem mg14_3 (v : MV) (x : (Nat → Int32)) : mSize (mSHistory x v) = mSize v := Eq.trans rfl rfl
theorem mg14_4 (v : MV) (x : Int32) : mSize (mSIsSaved x v) = mSize v := Eq.trans rfl rfl
theorem mg14_5 (v : MV) (x : Int32) : mSize (mSRemembered x v) = mSize v := Eq.trans rfl rfl
theorem mg14_6 (v : MV) (x : Int32) : mSize (mSErrorAt x v) = mSize v := Eq.trans rfl rfl
theorem mg14_7 (v : MV) (x : Int32) : mSize (mSFailedAt x v) = mSize v := Eq.trans rfl rfl
theorem mg14_8 (v : MV) (x : (Nat → Int32)) : mSize (mSMarks x v) = mSize v := Eq.trans rfl rfl
theorem mg14_9 (v : MV) (x : (Nat → Int32)) : mSize (mSText x v) = mSize v := Eq.trans rfl rfl
theorem mg14_10 (v : MV) (x : Int32) : mSize (mSTyped x v) = mSize v := Eq.trans rfl rfl
theorem mg14_11 (v : MV) (x : (Nat → Int32)) : mSize (mSLine x v) = mSize v := Eq.trans rfl rfl
theorem mg14_12 (v : MV) (x : Int32) : mSize (mSLined x v) = mSize v := Eq.trans rfl rfl
theorem mg14_13 (v : MV) (x : Int32) : mSize (mSThrown x v) = mSize v := Eq.trans rfl rfl
theorem mg14_14 (v : MV) (x : Int32) : mSize (mSSize x v) = x := Eq.trans rfl rfl
theorem mg14_15 (v : MV) (x : Int32) : mSize (mSSpot x v) = mSize v := Eq.trans rfl rfl
theorem mg14_16 (v : MV) (x : Int32) : mSize (mSWrong x v) = mSize v := Eq.trans rfl rfl
theorem mg14_17 (v : MV) (x : Int32) : mSize (mSTold x v) = mSize v := Eq.trans rfl rfl
theorem mg14_18 (v : MV) (x : (Nat → Int32)) : mSize (mSNumbers x v) = mSize v := Eq.trans rfl rfl
theorem mg15_0 (v : MV) (x : (Nat → Int32)) : mSpot (mSNow x v) = mSpot v := Eq.trans rfl rfl
theorem mg15_1 (v : MV) (x : (Nat → Int32)) : mSpot (mSBefore x v) = mSpot v := Eq.trans rfl rfl
theorem mg15_2 (v : MV) (x : (Nat → Int32)) : mSpot (mSSaved x v) = mSpot v := Eq.trans rfl rfl
theorem mg15_3 (v : MV) (x : (Nat → Int32)) : mSpot (mSHistory x v) = mSpot v := Eq.trans rfl rfl
theorem mg15_4 (v : MV) (x : Int32) : mSpot (mSIsSaved x v) = mSpot v := Eq.trans rfl rfl
theorem mg15_5 (v : MV) (x : Int32) : mSpot (mSRemembered x v) = mSpot v := Eq.trans rfl rfl
theorem mg15_6 (v : MV) (x : Int32) : mSpot (mSErrorAt x v) = mSpot v := Eq.trans rfl rfl
theorem mg15_7 (v : MV) (x : Int32) : mSpot (mSFailedAt x v) = mSpot v := Eq.trans rfl rfl
theorem mg15_8 (v : MV) (x : (Nat → Int32)) : mSpot (mSMarks x v) = mSpot v := Eq.trans rfl rfl
theorem mg15_9 (v : MV) (x : (Nat → Int32)) : mSpot (mSText x v) = mSpot v := Eq.trans rfl rfl
theorem mg15_10 (v : MV) (x : Int32) : mSpot (mSTyped x v) = mSpot v := Eq.trans rfl rfl
theorem mg15_11 (v : MV) (x : (Nat → Int32)) : mSpot (mSLine x v) = mSpot v := Eq.trans rfl rfl
theorem mg15_12 (v : MV) (x : Int32) : mSpot (mSLined x v) = mSpot v := Eq.trans rfl rfl
theorem mg15_13 (v : MV) (x : Int32) : mSpot (mSThrown x v) = mSpot v := Eq.trans rfl rfl
theorem mg15_14 (v : MV) (x : Int32) : mSpot (mSSize x v) = mSpot v := Eq.trans rfl rfl
theorem mg15_15 (v : MV) (x : Int32) : mSpot (mSSpot x v) = x := Eq.trans rfl rfl
theorem mg15_16 (v : MV) (x : Int32) : mSpot (mSWrong x v) = mSpot v := Eq.trans rfl rfl
theorem mg15_17 (v : MV) (x : Int32) : mSpot (mSTold x v) = mSpot v := Eq.trans rfl rfl
theorem mg15_18 (v : MV) (x : (Nat → Int32)) : mSpot (mSNumbers x v) = mSpot v := Eq.trans rfl rfl
theorem mg16_0 (v : MV) (x : (Nat → Int32)) : mWrong (mSNow x v) = mWrong v := Eq.trans rfl rfl
theorem mg16_1 (v : MV) (x : (Nat → Int32)) : mWrong (mSBefore x v) = mWrong v := Eq.trans rfl rfl
theorem mg16_2 (v : MV) (x : (Nat → Int32)) : mWrong (mSSaved x v) = mWrong v := Eq.trans rfl rfl
theorem mg16_3 (v : MV) (x : (Nat → Int32)) : mWrong (mSHistory x v) = mWrong v := Eq.trans rfl rfl
theorem mg16_4 (v : MV) (x : Int32) : mWrong (mSIsSaved x v) = mWrong v := Eq.trans rfl rfl
theorem mg16_5 (v : MV) (x : Int32) : mWrong (mSRemembered x v) = mWrong v := Eq.trans rfl rfl
theorem mg16_6 (v : MV) (x : Int32) : mWrong (mSErrorAt x v) = mWrong v := Eq.trans rfl rfl
theorem mg16_7 (v : MV) (x : Int32) : mWrong (mSFailedAt x v) = mWrong v := Eq.trans rfl rfl
theorem mg16_8 (v : MV) (x : (Nat → Int32)) : mWrong (mSMarks x v) = mWrong v := Eq.trans rfl rfl
theorem mg16_9 (v : MV) (x : (Nat → Int32)) : mWrong (mSText x v) = mWrong v := Eq.trans rfl rfl
theorem mg16_10 (v : MV) (x : Int32) : mWrong (mSTyped x v) = mWrong v := Eq.trans rfl rfl
theorem mg16_11 (v : MV) (x : (Nat → Int32)) : mWrong (mSLine x v) = mWrong v := Eq.trans rfl rfl
theorem mg16_12 (v : MV) (x : Int32) : mWrong (mSLined x v) = mWrong v := Eq.trans rfl rfl
theorem mg16_13 (v : MV) (x : Int32) : mWrong (mSThrown x v) = mWrong v := Eq.trans rfl rfl
theorem mg16_14 (v : MV) (x : Int32) : mWrong (mSSize x v) = mWrong v := Eq.trans rfl rfl
theorem mg16_15 (v : MV) (x : Int32) : mWrong (mSSpot x v) = mWrong v := Eq.trans rfl rfl
theorem mg16_16 (v : MV) (x : Int32) : mWrong (mSWrong x v) = x := Eq.trans rfl rfl
theorem mg16_17 (v : MV) (x : Int32) : mWrong (mSTold x v) = mWrong v := Eq.trans rfl rfl
theorem mg16_18 (v : MV) (x : (Nat → Int32)) : mWrong (mSNumbers x v) = mWrong v := Eq.trans rfl rfl
theorem mg17_0 (v : MV) (x : (Nat → Int32)) : mTold (mSNow x v) = mTold v := Eq.trans rfl rfl
theorem mg17_1 (v : MV) (x : (Nat → Int32)) : mTold (mSBefore x v) = mTold v := Eq.trans rfl rfl
theorem mg17_2 (v : MV) (x : (Nat → Int32)) : mTold (mSSaved x v) = mTold v := Eq.trans rfl rfl
theorem mg17_3 (v : MV) (x : (Nat → Int32)) : mTold (mSHistory x v) = mTold v := Eq.trans rfl rfl
theorem mg17_4 (v : MV) (x : Int32) : mTold (mSIsSaved x v) = mTold v := Eq.trans rfl rfl
theorem mg17_5 (v : MV) (x : Int32) : mTold (mSRemembered x v) = mTold v := Eq.trans rfl rfl
theorem mg17_6 (v : MV) (x : Int32) : mTold (mSErrorAt x v) = mTold v := Eq.trans rfl rfl
theorem mg17_7 (v : MV) (x : Int32) : mTold (mSFailedAt x v) = mTold v := Eq.trans rfl rfl
theorem mg17_8 (v : MV) (x : (Nat → Int32)) : mTold (mSMarks x v) = mTold v := Eq.trans rfl rfl
theorem mg17_9 (v : MV) (x : (Nat → Int32)) : mTold (mSText x v) = mTold v := Eq.trans rfl rfl
theorem mg17_10 (v : MV) (x : Int32) : mTold (mSTyped x v) = mTold v := Eq.trans rfl rfl
theorem mg17_11 (v : MV) (x : (Nat → Int32)) : mTold (mSLine x v) = mTold v := Eq.trans rfl rfl
theorem mg17_12 (v : MV) (x : Int32) : mTold (mSLined x v) = mTold v := Eq.trans rfl rfl
theorem mg17_13 (v : MV) (x : Int32) : mTold (mSThrown x v) = mTold v := Eq.trans rfl rfl
theorem mg17_14 (v : MV) (x : Int32) : mTold (mSSize x v) = mTold v := Eq.trans rfl rfl
theorem mg17_15 (v : MV) (x : Int32) : mTold (mSSpot x v) = mTold v := Eq.trans rfl rfl
theorem mg17_16 (v : MV) (x : Int32) : mTold (mSWrong x v) = mTold v := Eq.trans rfl rfl
theorem mg17_17 (v : MV) (x : Int32) : mTold (mSTold x v) = x := Eq.trans rfl rfl
theorem mg17_18 (v : MV) (x : (Nat → Int32)) : mTold (mSNumbers x v) = mTold v := Eq.trans rfl rfl
theorem mg18_0 (v : MV) (x : (Nat → Int32)) : mNumbers (mSNow x v) = mNumbers v := Eq.trans rfl rfl
theorem mg18_1 (v : MV) (x : (Nat → Int32)) : mNumbers (mSBefore x v) = mNumbers v := Eq.trans rfl rfl
theorem mg18_2 (v : MV) (x : (Nat → Int32)) : mNumbers (mSSaved x v) = mNumbers v := Eq.trans rfl rfl
theorem mg18_3 (v : MV) (x : (Nat → Int32)) : mNumbers (mSHistory x v) = mNumbers v := Eq.trans rfl rfl
theorem mg18_4 (v : MV) (x : Int32) : mNumbers (mSIsSaved x v) = mNumbers v := Eq.trans rfl rfl
theorem mg18_5 (v : MV) (x : Int32) : mNumbers (mSRemembered x v) = mNumbers v := Eq.trans rfl rfl
theorem mg18_6 (v : MV) (x : Int32) : mNumbers (mSErrorAt x v) = mNumbers v := Eq.trans rfl rfl
theorem mg18_7 (v : MV) (x : Int32) : mNumbers (mSFailedAt x v) = mNumbers v := Eq.trans rfl rfl
theorem mg18_8 (v : MV) (x : (Nat → Int32)) : mNumbers (mSMarks x v) = mNumbers v := Eq.trans rfl rfl
theorem mg18_9 (v : MV) (x : (Nat → Int32)) : mNumbers (mSText x v) = mNumbers v := Eq.trans rfl rfl
theorem mg18_10 (v : MV) (x : Int32) : mNumbers (mSTyped x v) = mNumbers v := Eq.trans rfl rfl
theorem mg18_11 (v : MV) (x : (Nat → Int32)) : mNumbers (mSLine x v) = mNumbers v := Eq.trans rfl rfl
theorem mg18_12 (v : MV) (x : Int32) : mNumbers (mSLined x v) = mNumbers v := Eq.trans rfl rfl
theorem mg18_13 (v : MV) (x : Int32) : mNumbers (mSThrown x v) = mNumbers v := Eq.trans rfl rfl
theorem mg18_14 (v : MV) (x : Int32) : mNumbers (mSSize x v) = mNumbers v := Eq.trans rfl rfl
theorem mg18_15 (v : MV) (x : Int32) : mNumbers (mSSpot x v) = mNumbers v := Eq.trans rfl rfl
theorem mg18_16 (v : MV) (x : Int32) : mNumbers (mSWrong x v) = mNumbers v := Eq.trans rfl rfl
theorem mg18_17 (v : MV) (x : Int32) : mNumbers (mSTold x v) = mNumbers v := Eq.trans rfl rfl
theorem mg18_18 (v : MV) (x : (Nat → Int32)) : mNumbers (mSNumbers x v) = x := Eq.trans rfl rfl
