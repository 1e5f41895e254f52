/** Promises 10 to 37: the queries about cells, seams, footpaths, winches and the yard, and the totals. */
public final class QueriesTest {
    public static void main(String[] args) {
        promises10To15Cells();
        promise15SteepestStep();
        promise16CanCut();
        promise17CuttableCells();
        promise18CellsAt();
        promises19And20CutsToLower();
        promises21To24Seams();
        promises21To24SeamsOverGaps();
        promises23And24EverySeamAlone();
        promise25Footpath();
        promise25FootpathAround();
        promises26To28Winches();
        promise28BestWinch();
        promises29To31Yard();
        promise32StepLimit();
        promises33To36Totals();
        promise37IsConsistent();
        Check.end("QueriesTest");
    }

    private static void promises10To15Cells() {
        TerraceQuarry q = new TerraceQuarry();
        q.setStone(3, 4, 2);
        q.cut(3, 4);
        q.toggleLedge(0, 5);
        Check.due(5, () -> q.height(3, 4));
        Check.due(6, () -> q.height(4, 3));
        Check.due(2, () -> q.stone(3, 4));
        Check.due(0, () -> q.stone(4, 3));
        Check.due(true, () -> q.isLedge(0, 5));
        Check.due(false, () -> q.isLedge(1, 0));
        Check.due(1, () -> q.looseBlocks(3, 4));
        Check.due(0, () -> q.looseBlocks(3, 3));
        Check.due(2, () -> q.topBlock(3, 4));
        Check.due(Check.MISSING, () -> q.topBlock(3, 3));
        int[][] outside = {{5, 0}, {-1, 0}, {0, 6}, {0, -1}, {Integer.MAX_VALUE, 0}, {0, Integer.MIN_VALUE}};
        for (int[] cell : outside) {
            int r = cell[0];
            int c = cell[1];
            Check.due(Check.INDEX, () -> q.height(r, c));
            Check.due(Check.INDEX, () -> q.stone(r, c));
            Check.due(Check.INDEX, () -> q.isLedge(r, c));
            Check.due(Check.INDEX, () -> q.looseBlocks(r, c));
            Check.due(Check.INDEX, () -> q.topBlock(r, c));
            Check.due(Check.INDEX, () -> q.steepestStep(r, c));
            Check.due(Check.INDEX, () -> q.canCut(r, c));
            Check.due(Check.INDEX, () -> q.cutsToLower(r, c, -1));
            Check.due(Check.INDEX, () -> q.cutsToLowerBySpreading(r, c, -1));
            Check.due(Check.INDEX, () -> q.seamSize(r, c));
            Check.due(Check.INDEX, () -> q.seamVolume(r, c));
            Check.due(Check.INDEX, () -> q.footpath(r, c, 0, 5));
            Check.due(Check.INDEX, () -> q.footpath(0, 5, r, c));
            Check.due(Check.INDEX, () -> q.bestWinch(r, c));
        }
        q.toggleLedge(3, 4);
        Check.due(2, () -> q.topBlock(3, 4));
    }

    private static void promise15SteepestStep() {
        TerraceQuarry q = new TerraceQuarry();
        q.setStepLimit(4);
        Check.due(0, () -> q.steepestStep(2, 2));
        q.fill(2, 2);
        q.cut(2, 3);
        q.cut(2, 3);
        Check.due(3, () -> q.steepestStep(2, 2));
        Check.due(3, () -> q.steepestStep(2, 3));
        Check.due(1, () -> q.steepestStep(1, 2));
        Check.due(1, () -> q.steepestStep(3, 2));
        Check.due(1, () -> q.steepestStep(2, 1));
        Check.due(2, () -> q.steepestStep(2, 4));
        Check.due(0, () -> q.steepestStep(1, 1));
        q.cut(0, 5);
        Check.due(1, () -> q.steepestStep(0, 5));
        Check.due(1, () -> q.steepestStep(0, 4));
        Check.due(0, () -> q.steepestStep(1, 0));
    }

    private static void promise16CanCut() {
        TerraceQuarry q = new TerraceQuarry();
        Check.due(true, () -> q.canCut(1, 1));
        q.toggleLedge(1, 1);
        Check.due(false, () -> q.canCut(1, 1));
        q.toggleLedge(1, 1);
        q.cut(1, 1);
        Check.due(false, () -> q.canCut(1, 1));
        q.setStepLimit(4);
        Check.due(true, () -> q.canCut(1, 1));
        q.cut(1, 1);
        q.cut(1, 1);
        Check.due(false, () -> q.canCut(1, 1));
        q.addWinch(1, 1, 9, 1);
        q.lift(0, 1, 1);
        Check.due(true, () -> q.canCut(1, 1));
        TerraceQuarry deep = ChangesTest.lowCorner();
        Check.due(false, () -> deep.canCut(0, 0));
        Check.due(true, () -> deep.canCut(0, 1));
    }

    private static void promise17CuttableCells() {
        TerraceQuarry q = new TerraceQuarry();
        Check.due(30, q::cuttableCells);
        q.cut(2, 2);
        Check.due(29, q::cuttableCells);
        q.fill(0, 0);
        Check.due(27, q::cuttableCells);
        q.toggleLedge(0, 1);
        Check.due(27, q::cuttableCells);
        q.toggleLedge(4, 5);
        Check.due(26, q::cuttableCells);
        for (int cell = 0; cell < 30; cell++) {
            if (!q.isLedge(cell / 6, cell % 6)) {
                q.toggleLedge(cell / 6, cell % 6);
            }
        }
        Check.due(0, q::cuttableCells);
    }

    private static void promise18CellsAt() {
        TerraceQuarry q = ChangesTest.lowCorner();
        Check.due(1, () -> q.cellsAt(0));
        Check.due(2, () -> q.cellsAt(4));
        Check.due(27, () -> q.cellsAt(6));
        Check.due(0, () -> q.cellsAt(9));
        q.fill(4, 5);
        q.fill(4, 5);
        q.fill(4, 5);
        Check.due(1, () -> q.cellsAt(9));
        Check.due(26, () -> q.cellsAt(6));
        Check.due(Check.ARGUMENT, () -> q.cellsAt(-1));
        Check.due(Check.ARGUMENT, () -> q.cellsAt(10));
        Check.due(Check.ARGUMENT, () -> q.cellsAt(Integer.MIN_VALUE));
    }

    private static void lowers(Object want, TerraceQuarry q, int row, int column, int height) {
        Check.due(want, () -> q.cutsToLower(row, column, height));
        Check.due(want, () -> q.cutsToLowerBySpreading(row, column, height));
    }

    private static void promises19And20CutsToLower() {
        TerraceQuarry q = new TerraceQuarry();
        lowers(0, q, 2, 2, 6);
        lowers(1, q, 2, 2, 5);
        lowers(6, q, 2, 2, 4);
        lowers(4, q, 0, 0, 4);
        lowers(55, q, 0, 0, 0);
        lowers(55, q, 4, 5, 0);
        q.fill(0, 1);
        lowers(5, q, 0, 0, 4);
        lowers(2, q, 0, 1, 5);
        lowers(0, q, 0, 1, 7);
        Check.due("6a 7a 6a 6a 6a 6a", () -> Check.line(q, 0));
        q.toggleLedge(0, 1);
        q.cut(2, 2);
        lowers(5, q, 0, 0, 4);
        lowers(0, q, 2, 2, 5);
        lowers(Check.ARGUMENT, q, 2, 2, 6);
        lowers(Check.ARGUMENT, q, 0, 0, 7);
        lowers(Check.ARGUMENT, q, 0, 0, -1);
        lowers(Check.ARGUMENT, q, 0, 0, Integer.MAX_VALUE);
        lowers(Check.ARGUMENT, q, 0, 0, Integer.MIN_VALUE);
        q.setStepLimit(2);
        lowers(20, q, 4, 5, 0);
        q.setStepLimit(4);
        lowers(10, q, 4, 5, 0);
        Check.due(1, q::cutTotal);
    }

    private static void seams(TerraceQuarry q, int count) {
        Check.due(count, q::seamCount);
        Check.due(count, q::seamCountByMerging);
    }

    private static void promises21To24Seams() {
        TerraceQuarry q = new TerraceQuarry();
        seams(q, 1);
        Check.due(30, () -> q.seamSize(4, 5));
        Check.due(180, () -> q.seamVolume(4, 5));
        q.setStone(2, 2, 1);
        q.setStone(3, 3, 1);
        seams(q, 3);
        Check.due(1, () -> q.seamSize(2, 2));
        Check.due(28, () -> q.seamSize(2, 3));
        q.setStone(2, 3, 1);
        seams(q, 2);
        q.cut(2, 3);
        Check.due(3, () -> q.seamSize(2, 2));
        Check.due(17, () -> q.seamVolume(3, 3));
        Check.due(27, () -> q.seamSize(0, 0));
        Check.due(162, () -> q.seamVolume(0, 0));
        q.toggleLedge(2, 3);
        Check.due(3, () -> q.seamSize(2, 2));
        for (int column = 0; column < 6; column++) {
            q.setStone(1, column, 2);
        }
        seams(q, 4);
        Check.due(6, () -> q.seamSize(0, 5));
        Check.due(6, () -> q.seamSize(1, 0));
        Check.due(15, () -> q.seamSize(2, 0));
        q.setStone(0, 5, 3);
        q.setStone(1, 0, 3);
        seams(q, 6);
        Check.due(1, () -> q.seamSize(0, 5));
        Check.due(1, () -> q.seamSize(1, 0));
    }

    private static void promises21To24SeamsOverGaps() {
        TerraceQuarry q = ChangesTest.lowCorner();
        seams(q, 1);
        Check.due(0, () -> q.seamSize(0, 0));
        Check.due(0, () -> q.seamVolume(0, 0));
        Check.due(29, () -> q.seamSize(0, 1));
        Check.due(170, () -> q.seamVolume(1, 0));
        q.setStone(0, 0, 1);
        seams(q, 1);
        q.setStone(0, 0, 0);
        q.setStone(1, 1, 1);
        q.setStone(0, 2, 1);
        seams(q, 4);
        Check.due(1, () -> q.seamSize(0, 1));
        Check.due(4, () -> q.seamVolume(0, 1));
        q.fill(0, 0);
        Check.due(28, () -> q.seamSize(0, 1));
        Check.due(28, () -> q.seamSize(0, 0));
        Check.due(1 + 4 + 4 + 25 * 6, () -> q.seamVolume(0, 0));
        seams(q, 3);
    }

    private static void promises23And24EverySeamAlone() {
        TerraceQuarry q = new TerraceQuarry();
        for (int cell = 0; cell < 30; cell++) {
            q.setStone(cell / 6, cell % 6, (cell / 6 + cell % 6) % 2);
        }
        seams(q, 30);
        Check.due(1, () -> q.seamSize(2, 3));
        q.setStone(2, 3, q.stone(2, 2));
        seams(q, 26);
        Check.due(5, () -> q.seamSize(2, 3));
    }

    private static void promise25Footpath() {
        TerraceQuarry q = new TerraceQuarry();
        Check.due(0, () -> q.footpath(3, 3, 3, 3));
        Check.due(1, () -> q.footpath(3, 3, 3, 4));
        Check.due(9, () -> q.footpath(0, 0, 4, 5));
        Check.due(9, () -> q.footpath(4, 0, 0, 5));
        Check.due(5, () -> q.footpath(0, 5, 0, 0));
        Check.due(6, () -> q.footpath(0, 5, 1, 0));
        q.toggleLedge(3, 3);
        Check.due(Check.MISSING, () -> q.footpath(3, 3, 3, 3));
        Check.due(Check.MISSING, () -> q.footpath(3, 3, 3, 4));
        Check.due(Check.MISSING, () -> q.footpath(3, 4, 3, 3));
        Check.due(4, () -> q.footpath(3, 2, 3, 4));
        Check.due(Check.INDEX, () -> q.footpath(3, 3, 5, 3));
        Check.due(Check.INDEX, () -> q.footpath(5, 3, 3, 3));
        q.toggleLedge(3, 3);
        q.cut(3, 3);
        Check.due(2, () -> q.footpath(3, 2, 3, 4));
        q.setStepLimit(2);
        q.cut(3, 3);
        Check.due(4, () -> q.footpath(3, 2, 3, 4));
        Check.due(Check.MISSING, () -> q.footpath(3, 3, 3, 4));
        Check.due(0, () -> q.footpath(3, 3, 3, 3));
    }

    private static void promise25FootpathAround() {
        TerraceQuarry q = new TerraceQuarry();
        for (int row = 0; row < 4; row++) {
            q.toggleLedge(row, 1);
            q.toggleLedge(4 - row, 3);
        }
        Check.due(17, () -> q.footpath(0, 0, 4, 5));
        Check.due(17, () -> q.footpath(4, 5, 0, 0));
        Check.due(10, () -> q.footpath(0, 2, 0, 0));
        q.toggleLedge(4, 1);
        Check.due(Check.MISSING, () -> q.footpath(0, 0, 4, 5));
        Check.due(4, () -> q.footpath(0, 0, 4, 0));
    }

    private static void promises26To28Winches() {
        TerraceQuarry q = new TerraceQuarry();
        Check.due(0, q::winchCount);
        Check.due(Check.INDEX, () -> q.liftableCells(0));
        Check.due(Check.INDEX, () -> q.liftableCells(-1));
        q.addWinch(0, 0, 2, 2);
        q.addWinch(4, 5, 5, 6);
        Check.due(2, q::winchCount);
        Check.due(0, () -> q.liftableCells(0));
        q.cut(0, 0);
        Check.due(1, () -> q.liftableCells(0));
        q.lift(0, 0, 0);
        Check.due(0, () -> q.liftableCells(0));
        q.cut(0, 2);
        q.cut(1, 2);
        q.setStone(1, 1, 1);
        q.cut(1, 1);
        Check.due(1, () -> q.liftableCells(0));
        Check.due(1, () -> q.liftableCells(1));
        q.setStone(4, 4, 3);
        q.cut(4, 4);
        Check.due(2, () -> q.liftableCells(1));
        q.toggleLedge(4, 4);
        Check.due(1, () -> q.liftableCells(1));
        q.lift(0, 0, 2);
        Check.due(0, () -> q.liftableCells(0));
        Check.due(Check.INDEX, () -> q.liftableCells(2));
        q.addWinch(0, 5, 9, 1);
        Check.due(3, q::winchCount);
        Check.due(0, () -> q.liftableCells(2));
        Check.due(Check.INDEX, () -> q.liftableCells(3));
        Check.due(Check.INDEX, () -> q.liftableCells(Integer.MIN_VALUE));
    }

    private static void promise28BestWinch() {
        TerraceQuarry q = new TerraceQuarry();
        q.cut(2, 2);
        Check.due(Check.MISSING, () -> q.bestWinch(2, 2));
        q.addWinch(2, 0, 6, 2);
        q.addWinch(2, 4, 3, 3);
        q.addWinch(0, 2, 3, 3);
        Check.due(1, () -> q.bestWinch(2, 2));
        Check.due(Check.MISSING, () -> q.bestWinch(2, 3));
        q.toggleLedge(2, 2);
        Check.due(Check.MISSING, () -> q.bestWinch(2, 2));
        q.cut(1, 1);
        Check.due(2, () -> q.bestWinch(1, 1));
        q.setStone(2, 1, 3);
        q.cut(2, 1);
        Check.due(0, () -> q.bestWinch(2, 1));
        q.setStone(4, 4, 2);
        q.cut(4, 4);
        Check.due(Check.MISSING, () -> q.bestWinch(4, 4));
        q.cut(4, 0);
        Check.due(0, () -> q.bestWinch(4, 0));
    }

    private static void promises29To31Yard() {
        TerraceQuarry q = new TerraceQuarry();
        q.addWinch(2, 2, 9, 6);
        Check.due(0, q::yardWeight);
        for (int stone = 0; stone < 4; stone++) {
            q.setStone(0, stone, stone);
            q.cut(0, stone);
            q.lift(0, 0, stone);
            int s = stone;
            Check.due(1, () -> q.inYard(s));
        }
        Check.due(14, q::yardWeight);
        q.setStone(4, 0, 3);
        q.cut(4, 0);
        Check.due(14, q::yardWeight);
        q.lift(0, 4, 0);
        Check.due(19, q::yardWeight);
        Check.due(2, () -> q.inYard(3));
        q.crush(3, 1);
        Check.due(14, q::yardWeight);
        Check.due(1, () -> q.inYard(3));
        Check.due(7, q::rubble);
        q.fill(2, 2);
        Check.due(6, q::rubble);
        Check.due(Check.ARGUMENT, () -> q.inYard(4));
        Check.due(Check.ARGUMENT, () -> q.inYard(-1));
        Check.due(Check.ARGUMENT, () -> q.inYard(Integer.MAX_VALUE));
    }

    private static void promise32StepLimit() {
        TerraceQuarry q = new TerraceQuarry();
        Check.due(1, q::stepLimit);
        q.setStepLimit(3);
        Check.due(3, q::stepLimit);
    }

    private static void promises33To36Totals() {
        TerraceQuarry q = new TerraceQuarry();
        Check.due(6.0, q::meanHeight);
        Check.due(Check.ARITHMETIC, q::liftedShare);
        q.addWinch(0, 0, 9, 6);
        q.cut(0, 0);
        Check.due(0.0f, q::liftedShare);
        Check.due(179.0 / 30.0, q::meanHeight);
        q.cut(1, 1);
        q.cut(2, 2);
        Check.due(3, q::cutTotal);
        Check.due(5.9, q::meanHeight);
        q.lift(0, 0, 0);
        Check.due(1.0f / 3.0f, q::liftedShare);
        Check.due(10L, q::workTotal);
        q.lift(0, 1, 1);
        Check.due(2.0f / 3.0f, q::liftedShare);
        Check.due(20L, q::workTotal);
        q.crush(0, 2);
        Check.due(2.0f / 3.0f, q::liftedShare);
        q.fill(0, 0);
        Check.due(3, q::cutTotal);
        Check.due(178.0 / 30.0, q::meanHeight);
        q.lift(0, 2, 2);
        Check.due(1.0f, q::liftedShare);
    }

    private static void promise37IsConsistent() {
        TerraceQuarry q = new TerraceQuarry();
        Check.due(true, q::isConsistent);
        TerraceQuarry deep = ChangesTest.lowCorner();
        Check.due(true, deep::isConsistent);
        deep.cut(2, 2);
        deep.setStone(2, 2, 1);
        deep.fill(4, 4);
        deep.toggleLedge(0, 1);
        deep.save();
        Check.due(true, deep::isConsistent);
        deep.undo();
        deep.restore();
        Check.due(true, deep::isConsistent);
    }
}
