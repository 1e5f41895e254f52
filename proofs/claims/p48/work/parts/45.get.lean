theorem qg0_0 (v : QV) (x : (Nat → Int32)) : qHeights (qSHeights x v) = x := Eq.trans rfl rfl
theorem qg0_1 (v : QV) (x : (Nat → Int32)) : qHeights (qSStones x v) = qHeights v := Eq.trans rfl rfl
theorem qg0_2 (v : QV) (x : (Nat → Int32)) : qHeights (qSLedges x v) = qHeights v := Eq.trans rfl rfl
theorem qg0_3 (v : QV) (x : (Nat → Int32)) : qHeights (qSBlockCounts x v) = qHeights v := Eq.trans rfl rfl
theorem qg0_4 (v : QV) (x : (Nat → Int32)) : qHeights (qSBlocks x v) = qHeights v := Eq.trans rfl rfl
theorem qg0_5 (v : QV) (x : (Nat → Int32)) : qHeights (qSWinchCells x v) = qHeights v := Eq.trans rfl rfl
theorem qg0_6 (v : QV) (x : (Nat → Int32)) : qHeights (qSCapacities x v) = qHeights v := Eq.trans rfl rfl
theorem qg0_7 (v : QV) (x : (Nat → Int32)) : qHeights (qSReaches x v) = qHeights v := Eq.trans rfl rfl
theorem qg0_8 (v : QV) (x : (Nat → Int32)) : qHeights (qSYard x v) = qHeights v := Eq.trans rfl rfl
theorem qg0_9 (v : QV) (x : Int32) : qHeights (qSWinches x v) = qHeights v := Eq.trans rfl rfl
theorem qg0_10 (v : QV) (x : Int32) : qHeights (qSLimit x v) = qHeights v := Eq.trans rfl rfl
theorem qg0_11 (v : QV) (x : Int32) : qHeights (qSRubble x v) = qHeights v := Eq.trans rfl rfl
theorem qg0_12 (v : QV) (x : Int32) : qHeights (qSCuts x v) = qHeights v := Eq.trans rfl rfl
theorem qg0_13 (v : QV) (x : Int32) : qHeights (qSLifts x v) = qHeights v := Eq.trans rfl rfl
theorem qg0_14 (v : QV) (x : Int64) : qHeights (qSWork x v) = qHeights v := Eq.trans rfl rfl
theorem qg1_0 (v : QV) (x : (Nat → Int32)) : qStones (qSHeights x v) = qStones v := Eq.trans rfl rfl
theorem qg1_1 (v : QV) (x : (Nat → Int32)) : qStones (qSStones x v) = x := Eq.trans rfl rfl
theorem qg1_2 (v : QV) (x : (Nat → Int32)) : qStones (qSLedges x v) = qStones v := Eq.trans rfl rfl
theorem qg1_3 (v : QV) (x : (Nat → Int32)) : qStones (qSBlockCounts x v) = qStones v := Eq.trans rfl rfl
theorem qg1_4 (v : QV) (x : (Nat → Int32)) : qStones (qSBlocks x v) = qStones v := Eq.trans rfl rfl
theorem qg1_5 (v : QV) (x : (Nat → Int32)) : qStones (qSWinchCells x v) = qStones v := Eq.trans rfl rfl
theorem qg1_6 (v : QV) (x : (Nat → Int32)) : qStones (qSCapacities x v) = qStones v := Eq.trans rfl rfl
theorem qg1_7 (v : QV) (x : (Nat → Int32)) : qStones (qSReaches x v) = qStones v := Eq.trans rfl rfl
theorem qg1_8 (v : QV) (x : (Nat → Int32)) : qStones (qSYard x v) = qStones v := Eq.trans rfl rfl
theorem qg1_9 (v : QV) (x : Int32) : qStones (qSWinches x v) = qStones v := Eq.trans rfl rfl
theorem qg1_10 (v : QV) (x : Int32) : qStones (qSLimit x v) = qStones v := Eq.trans rfl rfl
theorem qg1_11 (v : QV) (x : Int32) : qStones (qSRubble x v) = qStones v := Eq.trans rfl rfl
theorem qg1_12 (v : QV) (x : Int32) : qStones (qSCuts x v) = qStones v := Eq.trans rfl rfl
theorem qg1_13 (v : QV) (x : Int32) : qStones (qSLifts x v) = qStones v := Eq.trans rfl rfl
theorem qg1_14 (v : QV) (x : Int64) : qStones (qSWork x v) = qStones v := Eq.trans rfl rfl
theorem qg2_0 (v : QV) (x : (Nat → Int32)) : qLedges (qSHeights x v) = qLedges v := Eq.trans rfl rfl
theorem qg2_1 (v : QV) (x : (Nat → Int32)) : qLedges (qSStones x v) = qLedges v := Eq.trans rfl rfl
theorem qg2_2 (v : QV) (x : (Nat → Int32)) : qLedges (qSLedges x v) = x := Eq.trans rfl rfl
theorem qg2_3 (v : QV) (x : (Nat → Int32)) : qLedges (qSBlockCounts x v) = qLedges v := Eq.trans rfl rfl
theorem qg2_4 (v : QV) (x : (Nat → Int32)) : qLedges (qSBlocks x v) = qLedges v := Eq.trans rfl rfl
theorem qg2_5 (v : QV) (x : (Nat → Int32)) : qLedges (qSWinchCells x v) = qLedges v := Eq.trans rfl rfl
theorem qg2_6 (v : QV) (x : (Nat → Int32)) : qLedges (qSCapacities x v) = qLedges v := Eq.trans rfl rfl
theorem qg2_7 (v : QV) (x : (Nat → Int32)) : qLedges (qSReaches x v) = qLedges v := Eq.trans rfl rfl
theorem qg2_8 (v : QV) (x : (Nat → Int32)) : qLedges (qSYard x v) = qLedges v := Eq.trans rfl rfl
theorem qg2_9 (v : QV) (x : Int32) : qLedges (qSWinches x v) = qLedges v := Eq.trans rfl rfl
theorem qg2_10 (v : QV) (x : Int32) : qLedges (qSLimit x v) = qLedges v := Eq.trans rfl rfl
theorem qg2_11 (v : QV) (x : Int32) : qLedges (qSRubble x v) = qLedges v := Eq.trans rfl rfl
theorem qg2_12 (v : QV) (x : Int32) : qLedges (qSCuts x v) = qLedges v := Eq.trans rfl rfl
theorem qg2_13 (v : QV) (x : Int32) : qLedges (qSLifts x v) = qLedges v := Eq.trans rfl rfl
theorem qg2_14 (v : QV) (x : Int64) : qLedges (qSWork x v) = qLedges v := Eq.trans rfl rfl
theorem qg3_0 (v : QV) (x : (Nat → Int32)) : qBlockCounts (qSHeights x v) = qBlockCounts v := Eq.trans rfl rfl
theorem qg3_1 (v : QV) (x : (Nat → Int32)) : qBlockCounts (qSStones x v) = qBlockCounts v := Eq.trans rfl rfl
theorem qg3_2 (v : QV) (x : (Nat → Int32)) : qBlockCounts (qSLedges x v) = qBlockCounts v := Eq.trans rfl rfl
theorem qg3_3 (v : QV) (x : (Nat → Int32)) : qBlockCounts (qSBlockCounts x v) = x := Eq.trans rfl rfl
theorem qg3_4 (v : QV) (x : (Nat → Int32)) : qBlockCounts (qSBlocks x v) = qBlockCounts v := Eq.trans rfl rfl
theorem qg3_5 (v : QV) (x : (Nat → Int32)) : qBlockCounts (qSWinchCells x v) = qBlockCounts v := Eq.trans rfl rfl
theorem qg3_6 (v : QV) (x : (Nat → Int32)) : qBlockCounts (qSCapacities x v) = qBlockCounts v := Eq.trans rfl rfl
theorem qg3_7 (v : QV) (x : (Nat → Int32)) : qBlockCounts (qSReaches x v) = qBlockCounts v := Eq.trans rfl rfl
theorem qg3_8 (v : QV) (x : (Nat → Int32)) : qBlockCounts (qSYard x v) = qBlockCounts v := Eq.trans rfl rfl
theorem qg3_9 (v : QV) (x : Int32) : qBlockCounts (qSWinches x v) = qBlockCounts v := Eq.trans rfl rfl
theorem qg3_10 (v : QV) (x : Int32) : qBlockCounts (qSLimit x v) = qBlockCounts v := Eq.trans rfl rfl
theorem qg3_11 (v : QV) (x : Int32) : qBlockCounts (qSRubble x v) = qBlockCounts v := Eq.trans rfl rfl
theorem qg3_12 (v : QV) (x : Int32) : qBlockCounts (qSCuts x v) = qBlockCounts v := Eq.trans rfl rfl
theorem qg3_13 (v : QV) (x : Int32) : qBlockCounts (qSLifts x v) = qBlockCounts v := Eq.trans rfl rfl
theorem qg3_14 (v : QV) (x : Int64) : qBlockCounts (qSWork x v) = qBlockCounts v := Eq.trans rfl rfl
theorem qg4_0 (v : QV) (x : (Nat → Int32)) : qBlocks (qSHeights x v) = qBlocks v := Eq.trans rfl rfl
theorem qg4_1 (v : QV) (x : (Nat → Int32)) : qBlocks (qSStones x v) = qBlocks v := Eq.trans rfl rfl
theorem qg4_2 (v : QV) (x : (Nat → Int32)) : qBlocks (qSLedges x v) = qBlocks v := Eq.trans rfl rfl
theorem qg4_3 (v : QV) (x : (Nat → Int32)) : qBlocks (qSBlockCounts x v) = qBlocks v := Eq.trans rfl rfl
theorem qg4_4 (v : QV) (x : (Nat → Int32)) : qBlocks (qSBlocks x v) = x := Eq.trans rfl rfl
theorem qg4_5 (v : QV) (x : (Nat → Int32)) : qBlocks (qSWinchCells x v) = qBlocks v := Eq.trans rfl rfl
theorem qg4_6 (v : QV) (x : (Nat → Int32)) : qBlocks (qSCapacities x v) = qBlocks v := Eq.trans rfl rfl
theorem qg4_7 (v : QV) (x : (Nat → Int32)) : qBlocks (qSReaches x v) = qBlocks v := Eq.trans rfl rfl
theorem qg4_8 (v : QV) (x : (Nat → Int32)) : qBlocks (qSYard x v) = qBlocks v := Eq.trans rfl rfl
theorem qg4_9 (v : QV) (x : Int32) : qBlocks (qSWinches x v) = qBlocks v := Eq.trans rfl rfl
theorem qg4_10 (v : QV) (x : Int32) : qBlocks (qSLimit x v) = qBlocks v := Eq.trans rfl rfl
theorem qg4_11 (v : QV) (x : Int32) : qBlocks (qSRubble x v) = qBlocks v := Eq.trans rfl rfl
theorem qg4_12 (v : QV) (x : Int32) : qBlocks (qSCuts x v) = qBlocks v := Eq.trans rfl rfl
theorem qg4_13 (v : QV) (x : Int32) : qBlocks (qSLifts x v) = qBlocks v := Eq.trans rfl rfl
theorem qg4_14 (v : QV) (x : Int64) : qBlocks (qSWork x v) = qBlocks v := Eq.trans rfl rfl
theorem qg5_0 (v : QV) (x : (Nat → Int32)) : qWinchCells (qSHeights x v) = qWinchCells v := Eq.trans rfl rfl
theorem qg5_1 (v : QV) (x : (Nat → Int32)) : qWinchCells (qSStones x v) = qWinchCells v := Eq.trans rfl rfl
theorem qg5_2 (v : QV) (x : (Nat → Int32)) : qWinchCells (qSLedges x v) = qWinchCells v := Eq.trans rfl rfl
theorem qg5_3 (v : QV) (x : (Nat → Int32)) : qWinchCells (qSBlockCounts x v) = qWinchCells v := Eq.trans rfl rfl
theorem qg5_4 (v : QV) (x : (Nat → Int32)) : qWinchCells (qSBlocks x v) = qWinchCells v := Eq.trans rfl rfl
theorem qg5_5 (v : QV) (x : (Nat → Int32)) : qWinchCells (qSWinchCells x v) = x := Eq.trans rfl rfl
theorem qg5_6 (v : QV) (x : (Nat → Int32)) : qWinchCells (qSCapacities x v) = qWinchCells v := Eq.trans rfl rfl
theorem qg5_7 (v : QV) (x : (Nat → Int32)) : qWinchCells (qSReaches x v) = qWinchCells v := Eq.trans rfl rfl
theorem qg5_8 (v : QV) (x : (Nat → Int32)) : qWinchCells (qSYard x v) = qWinchCells v := Eq.trans rfl rfl
theorem qg5_9 (v : QV) (x : Int32) : qWinchCells (qSWinches x v) = qWinchCells v := Eq.trans rfl rfl
theorem qg5_10 (v : QV) (x : Int32) : qWinchCells (qSLimit x v) = qWinchCells v := Eq.trans rfl rfl
theorem qg5_11 (v : QV) (x : Int32) : qWinchCells (qSRubble x v) = qWinchCells v := Eq.trans rfl rfl
theorem qg5_12 (v : QV) (x : Int32) : qWinchCells (qSCuts x v) = qWinchCells v := Eq.trans rfl rfl
theorem qg5_13 (v : QV) (x : Int32) : qWinchCells (qSLifts x v) = qWinchCells v := Eq.trans rfl rfl
theorem qg5_14 (v : QV) (x : Int64) : qWinchCells (qSWork x v) = qWinchCells v := Eq.trans rfl rfl
theorem qg6_0 (v : QV) (x : (Nat → Int32)) : qCapacities (qSHeights x v) = qCapacities v := Eq.trans rfl rfl
theorem qg6_1 (v : QV) (x : (Nat → Int32)) : qCapacities (qSStones x v) = qCapacities v := Eq.trans rfl rfl
theorem qg6_2 (v : QV) (x : (Nat → Int32)) : qCapacities (qSLedges x v) = qCapacities v := Eq.trans rfl rfl
theorem qg6_3 (v : QV) (x : (Nat → Int32)) : qCapacities (qSBlockCounts x v) = qCapacities v := Eq.trans rfl rfl
theorem qg6_4 (v : QV) (x : (Nat → Int32)) : qCapacities (qSBlocks x v) = qCapacities v := Eq.trans rfl rfl
theorem qg6_5 (v : QV) (x : (Nat → Int32)) : qCapacities (qSWinchCells x v) = qCapacities v := Eq.trans rfl rfl
theorem qg6_6 (v : QV) (x : (Nat → Int32)) : qCapacities (qSCapacities x v) = x := Eq.trans rfl rfl
theorem qg6_7 (v : QV) (x : (Nat → Int32)) : qCapacities (qSReaches x v) = qCapacities v := Eq.trans rfl rfl
theorem qg6_8 (v : QV) (x : (Nat → Int32)) : qCapacities (qSYard x v) = qCapacities v := Eq.trans rfl rfl
theorem qg6_9 (v : QV) (x : Int32) : qCapacities (qSWinches x v) = qCapacities v := Eq.trans rfl rfl
theorem qg6_10 (v : QV) (x : Int32) : qCapacities (qSLimit x v) = qCapacities v := Eq.trans rfl rfl
theorem qg6_11 (v : QV) (x : Int32) : qCapacities (qSRubble x v) = qCapacities v := Eq.trans rfl rfl
theorem qg6_12 (v : QV) (x : Int32) : qCapacities (qSCuts x v) = qCapacities v := Eq.trans rfl rfl
theorem qg6_13 (v : QV) (x : Int32) : qCapacities (qSLifts x v) = qCapacities v := Eq.trans rfl rfl
theorem qg6_14 (v : QV) (x : Int64) : qCapacities (qSWork x v) = qCapacities v := Eq.trans rfl rfl
theorem qg7_0 (v : QV) (x : (Nat → Int32)) : qReaches (qSHeights x v) = qReaches v := Eq.trans rfl rfl
theorem qg7_1 (v : QV) (x : (Nat → Int32)) : qReaches (qSStones x v) = qReaches v := Eq.trans rfl rfl
theorem qg7_2 (v : QV) (x : (Nat → Int32)) : qReaches (qSLedges x v) = qReaches v := Eq.trans rfl rfl
theorem qg7_3 (v : QV) (x : (Nat → Int32)) : qReaches (qSBlockCounts x v) = qReaches v := Eq.trans rfl rfl
theorem qg7_4 (v : QV) (x : (Nat → Int32)) : qReaches (qSBlocks x v) = qReaches v := Eq.trans rfl rfl
theorem qg7_5 (v : QV) (x : (Nat → Int32)) : qReaches (qSWinchCells x v) = qReaches v := Eq.trans rfl rfl
theorem qg7_6 (v : QV) (x : (Nat → Int32)) : qReaches (qSCapacities x v) = qReaches v := Eq.trans rfl rfl
theorem qg7_7 (v : QV) (x : (Nat → Int32)) : qReaches (qSReaches x v) = x := Eq.trans rfl rfl
theorem qg7_8 (v : QV) (x : (Nat → Int32)) : qReaches (qSYard x v) = qReaches v := Eq.trans rfl rfl
theorem qg7_9 (v : QV) (x : Int32) : qReaches (qSWinches x v) = qReaches v := Eq.trans rfl rfl
theorem qg7_10 (v : QV) (x : Int32) : qReaches (qSLimit x v) = qReaches v := Eq.trans rfl rfl
theorem qg7_11 (v : QV) (x : Int32) : qReaches (qSRubble x v) = qReaches v := Eq.trans rfl rfl
theorem qg7_12 (v : QV) (x : Int32) : qReaches (qSCuts x v) = qReaches v := Eq.trans rfl rfl
theorem qg7_13 (v : QV) (x : Int32) : qReaches (qSLifts x v) = qReaches v := Eq.trans rfl rfl
theorem qg7_14 (v : QV) (x : Int64) : qReaches (qSWork x v) = qReaches v := Eq.trans rfl rfl
theorem qg8_0 (v : QV) (x : (Nat → Int32)) : qYard (qSHeights x v) = qYard v := Eq.trans rfl rfl
theorem qg8_1 (v : QV) (x : (Nat → Int32)) : qYard (qSStones x v) = qYard v := Eq.trans rfl rfl
theorem qg8_2 (v : QV) (x : (Nat → Int32)) : qYard (qSLedges x v) = qYard v := Eq.trans rfl rfl
theorem qg8_3 (v : QV) (x : (Nat → Int32)) : qYard (qSBlockCounts x v) = qYard v := Eq.trans rfl rfl
theorem qg8_4 (v : QV) (x : (Nat → Int32)) : qYard (qSBlocks x v) = qYard v := Eq.trans rfl rfl
theorem qg8_5 (v : QV) (x : (Nat → Int32)) : qYard (qSWinchCells x v) = qYard v := Eq.trans rfl rfl
theorem qg8_6 (v : QV) (x : (Nat → Int32)) : qYard (qSCapacities x v) = qYard v := Eq.trans rfl rfl
theorem qg8_7 (v : QV) (x : (Nat → Int32)) : qYard (qSReaches x v) = qYard v := Eq.trans rfl rfl
theorem qg8_8 (v : QV) (x : (Nat → Int32)) : qYard (qSYard x v) = x := Eq.trans rfl rfl
theorem qg8_9 (v : QV) (x : Int32) : qYard (qSWinches x v) = qYard v := Eq.trans rfl rfl
theorem qg8_10 (v : QV) (x : Int32) : qYard (qSLimit x v) = qYard v := Eq.trans rfl rfl
theorem qg8_11 (v : QV) (x : Int32) : qYard (qSRubble x v) = qYard v := Eq.trans rfl rfl
theorem qg8_12 (v : QV) (x : Int32) : qYard (qSCuts x v) = qYard v := Eq.trans rfl rfl
theorem qg8_13 (v : QV) (x : Int32) : qYard (qSLifts x v) = qYard v := Eq.trans rfl rfl
theorem qg8_14 (v : QV) (x : Int64) : qYard (qSWork x v) = qYard v := Eq.trans rfl rfl
theorem qg9_0 (v : QV) (x : (Nat → Int32)) : qWinches (qSHeights x v) = qWinches v := Eq.trans rfl rfl
theorem qg9_1 (v : QV) (x : (Nat → Int32)) : qWinches (qSStones x v) = qWinches v := Eq.trans rfl rfl
theorem qg9_2 (v : QV) (x : (Nat → Int32)) : qWinches (qSLedges x v) = qWinches v := Eq.trans rfl rfl
theorem qg9_3 (v : QV) (x : (Nat → Int32)) : qWinches (qSBlockCounts x v) = qWinches v := Eq.trans rfl rfl
theorem qg9_4 (v : QV) (x : (Nat → Int32)) : qWinches (qSBlocks x v) = qWinches v := Eq.trans rfl rfl
theorem qg9_5 (v : QV) (x : (Nat → Int32)) : qWinches (qSWinchCells x v) = qWinches v := Eq.trans rfl rfl
theorem qg9_6 (v : QV) (x : (Nat → Int32)) : qWinches (qSCapacities x v) = qWinches v := Eq.trans rfl rfl
theorem qg9_7 (v : QV) (x : (Nat → Int32)) : qWinches (qSReaches x v) = qWinches v := Eq.trans rfl rfl
theorem qg9_8 (v : QV) (x : (Nat → Int32)) : qWinches (qSYard x v) = qWinches v := Eq.trans rfl rfl
theorem qg9_9 (v : QV) (x : Int32) : qWinches (qSWinches x v) = x := Eq.trans rfl rfl
theorem qg9_10 (v : QV) (x : Int32) : qWinches (qSLimit x v) = qWinches v := Eq.trans rfl rfl
theorem qg9_11 (v : QV) (x : Int32) : qWinches (qSRubble x v) = qWinches v := Eq.trans rfl rfl
theorem qg9_12 (v : QV) (x : Int32) : qWinches (qSCuts x v) = qWinches v := Eq.trans rfl rfl
theorem qg9_13 (v : QV) (x : Int32) : qWinches (qSLifts x v) = qWinches v := Eq.trans rfl rfl
theorem qg9_14 (v : QV) (x : Int64) : qWinches (qSWork x v) = qWinches v := Eq.trans rfl rfl
theorem qg10_0 (v : QV) (x : (Nat → Int32)) : qLimit (qSHeights x v) = qLimit v := Eq.trans rfl rfl
theorem qg10_1 (v : QV) (x : (Nat → Int32)) : qLimit (qSStones x v) = qLimit v := Eq.trans rfl rfl
theorem qg10_2 (v : QV) (x : (Nat → Int32)) : qLimit (qSLedges x v) = qLimit v := Eq.trans rfl rfl
theorem qg10_3 (v : QV) (x : (Nat → Int32)) : qLimit (qSBlockCounts x v) = qLimit v := Eq.trans rfl rfl
theorem qg10_4 (v : QV) (x : (Nat → Int32)) : qLimit (qSBlocks x v) = qLimit v := Eq.trans rfl rfl
theorem qg10_5 (v : QV) (x : (Nat → Int32)) : qLimit (qSWinchCells x v) = qLimit v := Eq.trans rfl rfl
theorem qg10_6 (v : QV) (x : (Nat → Int32)) : qLimit (qSCapacities x v) = qLimit v := Eq.trans rfl rfl
theorem qg10_7 (v : QV) (x : (Nat → Int32)) : qLimit (qSReaches x v) = qLimit v := Eq.trans rfl rfl
theorem qg10_8 (v : QV) (x : (Nat → Int32)) : qLimit (qSYard x v) = qLimit v := Eq.trans rfl rfl
theorem qg10_9 (v : QV) (x : Int32) : qLimit (qSWinches x v) = qLimit v := Eq.trans rfl rfl
theorem qg10_10 (v : QV) (x : Int32) : qLimit (qSLimit x v) = x := Eq.trans rfl rfl
theorem qg10_11 (v : QV) (x : Int32) : qLimit (qSRubble x v) = qLimit v := Eq.trans rfl rfl
theorem qg10_12 (v : QV) (x : Int32) : qLimit (qSCuts x v) = qLimit v := Eq.trans rfl rfl
theorem qg10_13 (v : QV) (x : Int32) : qLimit (qSLifts x v) = qLimit v := Eq.trans rfl rfl
theorem qg10_14 (v : QV) (x : Int64) : qLimit (qSWork x v) = qLimit v := Eq.trans rfl rfl
theorem qg11_0 (v : QV) (x : (Nat → Int32)) : qRubble (qSHeights x v) = qRubble v := Eq.trans rfl rfl
theorem qg11_1 (v : QV) (x : (Nat → Int32)) : qRubble (qSStones x v) = qRubble v := Eq.trans rfl rfl
theorem qg11_2 (v : QV) (x : (Nat → Int32)) : qRubble (qSLedges x v) = qRubble v := Eq.trans rfl rfl
theorem qg11_3 (v : QV) (x : (Nat → Int32)) : qRubble (qSBlockCounts x v) = qRubble v := Eq.trans rfl rfl
theorem qg11_4 (v : QV) (x : (Nat → Int32)) : qRubble (qSBlocks x v) = qRubble v := Eq.trans rfl rfl
theorem qg11_5 (v : QV) (x : (Nat → Int32)) : qRubble (qSWinchCells x v) = qRubble v := Eq.trans rfl rfl
theorem qg11_6 (v : QV) (x : (Nat → Int32)) : qRubble (qSCapacities x v) = qRubble v := Eq.trans rfl rfl
theorem qg11_7 (v : QV) (x : (Nat → Int32)) : qRubble (qSReaches x v) = qRubble v := Eq.trans rfl rfl
theorem qg11_8 (v : QV) (x : (Nat → Int32)) : qRubble (qSYard x v) = qRubble v := Eq.trans rfl rfl
theorem qg11_9 (v : QV) (x : Int32) : qRubble (qSWinches x v) = qRubble v := Eq.trans rfl rfl
theorem qg11_10 (v : QV) (x : Int32) : qRubble (qSLimit x v) = qRubble v := Eq.trans rfl rfl
theorem qg11_11 (v : QV) (x : Int32) : qRubble (qSRubble x v) = x := Eq.trans rfl rfl
theorem qg11_12 (v : QV) (x : Int32) : qRubble (qSCuts x v) = qRubble v := Eq.trans rfl rfl
theorem qg11_13 (v : QV) (x : Int32) : qRubble (qSLifts x v) = qRubble v := Eq.trans rfl rfl
theorem qg11_14 (v : QV) (x : Int64) : qRubble (qSWork x v) = qRubble v := Eq.trans rfl rfl
theorem qg12_0 (v : QV) (x : (Nat → Int32)) : qCuts (qSHeights x v) = qCuts v := Eq.trans rfl rfl
theorem qg12_1 (v : QV) (x : (Nat → Int32)) : qCuts (qSStones x v) = qCuts v := Eq.trans rfl rfl
theorem qg12_2 (v : QV) (x : (Nat → Int32)) : qCuts (qSLedges x v) = qCuts v := Eq.trans rfl rfl
theorem qg12_3 (v : QV) (x : (Nat → Int32)) : qCuts (qSBlockCounts x v) = qCuts v := Eq.trans rfl rfl
theorem qg12_4 (v : QV) (x : (Nat → Int32)) : qCuts (qSBlocks x v) = qCuts v := Eq.trans rfl rfl
theorem qg12_5 (v : QV) (x : (Nat → Int32)) : qCuts (qSWinchCells x v) = qCuts v := Eq.trans rfl rfl
theorem qg12_6 (v : QV) (x : (Nat → Int32)) : qCuts (qSCapacities x v) = qCuts v := Eq.trans rfl rfl
theorem qg12_7 (v : QV) (x : (Nat → Int32)) : qCuts (qSReaches x v) = qCuts v := Eq.trans rfl rfl
theorem qg12_8 (v : QV) (x : (Nat → Int32)) : qCuts (qSYard x v) = qCuts v := Eq.trans rfl rfl
theorem qg12_9 (v : QV) (x : Int32) : qCuts (qSWinches x v) = qCuts v := Eq.trans rfl rfl
theorem qg12_10 (v : QV) (x : Int32) : qCuts (qSLimit x v) = qCuts v := Eq.trans rfl rfl
theorem qg12_11 (v : QV) (x : Int32) : qCuts (qSRubble x v) = qCuts v := Eq.trans rfl rfl
theorem qg12_12 (v : QV) (x : Int32) : qCuts (qSCuts x v) = x := Eq.trans rfl rfl
theorem qg12_13 (v : QV) (x : Int32) : qCuts (qSLifts x v) = qCuts v := Eq.trans rfl rfl
theorem qg12_14 (v : QV) (x : Int64) : qCuts (qSWork x v) = qCuts v := Eq.trans rfl rfl
theorem qg13_0 (v : QV) (x : (Nat → Int32)) : qLifts (qSHeights x v) = qLifts v := Eq.trans rfl rfl
theorem qg13_1 (v : QV) (x : (Nat → Int32)) : qLifts (qSStones x v) = qLifts v := Eq.trans rfl rfl
theorem qg13_2 (v : QV) (x : (Nat → Int32)) : qLifts (qSLedges x v) = qLifts v := Eq.trans rfl rfl
theorem qg13_3 (v : QV) (x : (Nat → Int32)) : qLifts (qSBlockCounts x v) = qLifts v := Eq.trans rfl rfl
theorem qg13_4 (v : QV) (x : (Nat → Int32)) : qLifts (qSBlocks x v) = qLifts v := Eq.trans rfl rfl
theorem qg13_5 (v : QV) (x : (Nat → Int32)) : qLifts (qSWinchCells x v) = qLifts v := Eq.trans rfl rfl
theorem qg13_6 (v : QV) (x : (Nat → Int32)) : qLifts (qSCapacities x v) = qLifts v := Eq.trans rfl rfl
theorem qg13_7 (v : QV) (x : (Nat → Int32)) : qLifts (qSReaches x v) = qLifts v := Eq.trans rfl rfl
theorem qg13_8 (v : QV) (x : (Nat → Int32)) : qLifts (qSYard x v) = qLifts v := Eq.trans rfl rfl
theorem qg13_9 (v : QV) (x : Int32) : qLifts (qSWinches x v) = qLifts v := Eq.trans rfl rfl
theorem qg13_10 (v : QV) (x : Int32) : qLifts (qSLimit x v) = qLifts v := Eq.trans rfl rfl
theorem qg13_11 (v : QV) (x : Int32) : qLifts (qSRubble x v) = qLifts v := Eq.trans rfl rfl
theorem qg13_12 (v : QV) (x : Int32) : qLifts (qSCuts x v) = qLifts v := Eq.trans rfl rfl
theorem qg13_13 (v : QV) (x : Int32) : qLifts (qSLifts x v) = x := Eq.trans rfl rfl
theorem qg13_14 (v : QV) (x : Int64) : qLifts (qSWork x v) = qLifts v := Eq.trans rfl rfl
theorem qg14_0 (v : QV) (x : (Nat → Int32)) : qWork (qSHeights x v) = qWork v := Eq.trans rfl rfl
theorem qg14_1 (v : QV) (x : (Nat → Int32)) : qWork (qSStones x v) = qWork v := Eq.trans rfl rfl
theorem qg14_2 (v : QV) (x : (Nat → Int32)) : qWork (qSLedges x v) = qWork v := Eq.trans rfl rfl
theorem qg14_3 (v : QV) (x : (Nat → Int32)) : qWork (qSBlockCounts x v) = qWork v := Eq.trans rfl rfl
theorem qg14_4 (v : QV) (x : (Nat → Int32)) : qWork (qSBlocks x v) = qWork v := Eq.trans rfl rfl
theorem qg14_5 (v : QV) (x : (Nat → Int32)) : qWork (qSWinchCells x v) = qWork v := Eq.trans rfl rfl
theorem qg14_6 (v : QV) (x : (Nat → Int32)) : qWork (qSCapacities x v) = qWork v := Eq.trans rfl rfl
theorem qg14_7 (v : QV) (x : (Nat → Int32)) : qWork (qSReaches x v) = qWork v := Eq.trans rfl rfl
theorem qg14_8 (v : QV) (x : (Nat → Int32)) : qWork (qSYard x v) = qWork v := Eq.trans rfl rfl
theorem qg14_9 (v : QV) (x : Int32) : qWork (qSWinches x v) = qWork v := Eq.trans rfl rfl
theorem qg14_10 (v : QV) (x : Int32) : qWork (qSLimit x v) = qWork v := Eq.trans rfl rfl
theorem qg14_11 (v : QV) (x : Int32) : qWork (qSRubble x v) = qWork v := Eq.trans rfl rfl
theorem qg14_12 (v : QV) (x : Int32) : qWork (qSCuts x v) = qWork v := Eq.trans rfl rfl
theorem qg14_13 (v : QV) (x : Int32) : qWork (qSLifts x v) = qWork v := Eq.trans rfl rfl
theorem qg14_14 (v : QV) (x : Int64) : qWork (qSWork x v) = x := Eq.trans rfl rfl
