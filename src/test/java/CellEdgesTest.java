/** The edges of the cells: grid, neighbours, heights, steps, stacks, rubble and ledges (promises 1 to 6, 10 to 20). */
public final class CellEdgesTest {
    private static final int CELLS = 30;

    public static void main(String[] args) {
        gridFirstAndLastCells();
        gridNeighbours();
        stepsToNeighboursAlone();
        promise02EachStone();
        promise03HeightZero();
        promise03ThreeBlocks();
        promise03StoneOfTheBlock();
        stepLimitsDown();
        stepLimitsUp();
        promise04HeightNine();
        promise04LooseBlocks();
        promise04Rubble();
        promise05LedgesKeepTheRest();
        promise06EachLimit();
        promises16And17CanCut();
        promise18EachHeight();
        promises19And20EachHeight();
        promises19And20ExactlyAllowed();
        promises19And20Range();
        allCellsAtHeightZero();
        allCellsAtHeightNine();
        Check.end("CellEdgesTest");
    }

    private static int row(int cell) {
        return cell / 6;
    }

    private static int column(int cell) {
        return cell % 6;
    }

    private static int distance(int cell, int other) {
        return Math.abs(row(cell) - row(other)) + Math.abs(column(cell) - column(other));
    }

    private static boolean near(int cell, int other) {
        return distance(cell, other) == 1;
    }

    private static int cut(TerraceQuarry q, int cell) {
        return q.cut(row(cell), column(cell));
    }

    private static int fill(TerraceQuarry q, int cell) {
        return q.fill(row(cell), column(cell));
    }

    /** Each cell of the grid exists, and a change of it is seen there and nowhere else. */
    private static void gridFirstAndLastCells() {
        for (int cell = 0; cell < CELLS; cell++) {
            int r = row(cell);
            int c = column(cell);
            TerraceQuarry q = new TerraceQuarry();
            Check.due(0, () -> q.setStone(r, c, 2));
            Check.due(5, () -> q.cut(r, c));
            Check.due(true, () -> q.toggleLedge(r, c));
            Check.due(0, () -> q.addWinch(r, c, 2, 1));
            for (int other = 0; other < CELLS; other++) {
                boolean same = other == cell;
                int or = row(other);
                int oc = column(other);
                Check.due(same ? 5 : 6, () -> q.height(or, oc));
                Check.due(same ? 2 : 0, () -> q.stone(or, oc));
                Check.due(same, () -> q.isLedge(or, oc));
                Check.due(same ? 1 : 0, () -> q.looseBlocks(or, oc));
                Check.due(same ? 2 : Check.MISSING, () -> q.topBlock(or, oc));
            }
        }
    }

    /** Neither the next row, nor the other side, nor a corner makes a neighbour. */
    private static void gridNeighbours() {
        for (int cell = 0; cell < CELLS; cell++) {
            TerraceQuarry q = new TerraceQuarry();
            cut(q, cell);
            for (int other = 0; other < CELLS; other++) {
                int o = other;
                boolean step = other == cell || near(cell, other);
                Check.due(step ? 1 : 0, () -> q.steepestStep(row(o), column(o)));
            }
        }
    }

    private static void stepsToNeighboursAlone() {
        for (int i = 0; i < CELLS * CELLS; i++) {
            int cell = i / CELLS;
            int other = i % CELLS;
            if (cell != other) {
                boolean near = near(cell, other);
                TerraceQuarry low = new TerraceQuarry();
                cut(low, cell);
                Check.due(near ? Check.UNSUPPORTED : (Object) 7, () -> fill(low, other));
                TerraceQuarry high = new TerraceQuarry();
                fill(high, cell);
                Check.due(!near, () -> high.canCut(row(other), column(other)));
                Check.due(near ? Check.UNSUPPORTED : (Object) 5, () -> cut(high, other));
                TerraceQuarry both = new TerraceQuarry();
                both.setStepLimit(2);
                cut(both, cell);
                fill(both, other);
                Check.due(near ? Check.UNSUPPORTED : (Object) 2, () -> both.setStepLimit(1));
            }
        }
    }

    private static void promise02EachStone() {
        TerraceQuarry q = new TerraceQuarry();
        int previous = 0;
        for (int stone = 0; stone <= 3; stone++) {
            int s = stone;
            int before = previous;
            Check.due(before, () -> q.setStone(0, 0, s));
            Check.due(s, () -> q.stone(0, 0));
            Check.due(s, () -> q.setStone(0, 0, s));
            previous = stone;
        }
        Check.due(3, () -> q.setStone(0, 0, 0));
        Check.due(0, () -> q.stone(0, 0));
        // A full stack keeps its blocks, and the stone stays the same at all heights.
        q.setStepLimit(4);
        q.setStone(2, 2, 1);
        for (int height = 5; height >= 3; height--) {
            q.cut(2, 2);
            Check.due(1, () -> q.stone(2, 2));
        }
        Check.due(1, () -> q.setStone(2, 2, 3));
        Check.due(3, () -> q.looseBlocks(2, 2));
        Check.due(1, () -> q.topBlock(2, 2));
        q.setStone(3, 3, 2);
        q.fill(3, 3);
        Check.due(2, () -> q.stone(3, 3));
    }

    /** The cell 0, 0 between neighbours of the height 4. */
    private static TerraceQuarry corner(int height) {
        TerraceQuarry q = new TerraceQuarry();
        q.setStepLimit(4);
        q.addWinch(2, 2, 9, 6);
        Twins.bring(q, 0, 1, 4);
        Twins.bring(q, 1, 0, 4);
        Twins.bring(q, 0, 0, height);
        return q;
    }

    private static void promise03HeightZero() {
        TerraceQuarry q = corner(1);
        Check.due(0, () -> q.cut(0, 0));
        Check.due(0, () -> q.height(0, 0));
        Check.due(Check.STATE, () -> q.cut(0, 0));
        Check.due(1, () -> q.looseBlocks(0, 0));
        Check.due(20, () -> q.lift(0, 0, 0));
        Check.due(Check.STATE, () -> q.cut(0, 0));
        Check.due(false, () -> q.canCut(0, 0));
        Check.due(1, () -> q.fill(0, 0));
        Check.due(true, () -> q.canCut(0, 0));
        Check.due(0, () -> q.cut(0, 0));
    }

    private static void promise03ThreeBlocks() {
        TerraceQuarry q = new TerraceQuarry();
        q.setStepLimit(4);
        q.addWinch(2, 2, 9, 6);
        for (int blocks = 1; blocks <= 3; blocks++) {
            int b = blocks;
            Check.due(6 - b, () -> q.cut(1, 1));
            Check.due(b, () -> q.looseBlocks(1, 1));
        }
        Check.due(Check.STATE, () -> q.cut(1, 1));
        q.lift(0, 1, 1);
        Check.due(2, () -> q.cut(1, 1));
        Check.due(3, () -> q.looseBlocks(1, 1));
        // The neighbours of a full stack have stacks of their own.
        Check.due(0, () -> q.looseBlocks(1, 2));
        Check.due(5, () -> q.cut(1, 2));
        Check.due(5, () -> q.cut(1, 0));
    }

    private static void promise03StoneOfTheBlock() {
        TerraceQuarry q = new TerraceQuarry();
        q.setStepLimit(4);
        q.addWinch(2, 2, 9, 6);
        for (int stone = 3; stone >= 1; stone--) {
            q.setStone(1, 1, stone);
            q.cut(1, 1);
        }
        for (int stone = 1; stone <= 3; stone++) {
            int s = stone;
            Check.due(s, () -> q.topBlock(1, 1));
            q.lift(0, 1, 1);
            Check.due(1, () -> q.inYard(s));
        }
        Check.due(Check.MISSING, () -> q.topBlock(1, 1));
        Check.due(0, () -> q.inYard(0));
    }

    /** A step of the limit is made, one more is refused, on each side and for each limit. */
    private static void stepLimitsDown() {
        int[][] sides = {{1, 2}, {3, 2}, {2, 1}, {2, 3}};
        for (int limit = 1; limit <= 4; limit++) {
            for (int[] side : sides) {
                TerraceQuarry q = new TerraceQuarry();
                q.setStepLimit(limit);
                q.addWinch(2, 2, 9, 6);
                int lowest = 6 - limit;
                Twins.bring(q, 2, 2, lowest);
                Check.due(lowest, () -> q.height(2, 2));
                Check.due(limit, () -> q.steepestStep(2, 2));
                Check.due(Check.UNSUPPORTED, () -> q.cut(2, 2));
                Check.due(false, () -> q.canCut(2, 2));
                // Only one neighbour is left high, and it alone forbids the cut.
                for (int[] other : sides) {
                    if (other != side) {
                        q.cut(other[0], other[1]);
                    }
                }
                Check.due(Check.UNSUPPORTED, () -> q.cut(2, 2));
                q.cut(side[0], side[1]);
                Check.due(lowest - 1, () -> q.cut(2, 2));
            }
        }
    }

    private static void stepLimitsUp() {
        int[][] sides = {{1, 2}, {3, 2}, {2, 1}, {2, 3}};
        for (int i = 0; i < 16; i++) {
            int limit = 1 + i / 4;
            int[] side = sides[i % 4];
            TerraceQuarry q = new TerraceQuarry();
            q.setStepLimit(limit);
            q.addWinch(0, 0, 9, 6);
            // One neighbour alone is so low that the step to it reaches the limit below the height 9.
            int low = limit < 3 ? 5 : 4;
            Twins.bring(q, side[0], side[1], low);
            int highest = low + limit;
            Twins.bring(q, 2, 2, highest);
            Check.due(highest, () -> q.height(2, 2));
            Check.due(limit, () -> q.steepestStep(2, 2));
            Check.due(Check.UNSUPPORTED, () -> q.fill(2, 2));
            q.fill(side[0], side[1]);
            Check.due(highest + 1, () -> q.fill(2, 2));
        }
    }

    private static void promise04HeightNine() {
        TerraceQuarry q = new TerraceQuarry();
        q.setStepLimit(4);
        for (int height = 7; height <= 9; height++) {
            int h = height;
            Check.due(h, () -> q.fill(2, 2));
            Check.due(h, () -> q.height(2, 2));
        }
        Check.due(2, q::rubble);
        Check.due(Check.STATE, () -> q.fill(2, 2));
        Check.due(8, () -> q.cut(2, 2));
        Check.due(Check.STATE, () -> q.fill(2, 2));
        q.addWinch(2, 2, 2, 1);
        Check.due(4, () -> q.lift(0, 2, 2));
        Check.due(9, () -> q.fill(2, 2));
        Check.due(Check.STATE, () -> q.fill(2, 2));
    }

    private static void promise04LooseBlocks() {
        TerraceQuarry q = new TerraceQuarry();
        q.setStepLimit(4);
        q.addWinch(2, 2, 9, 6);
        q.cut(1, 1);
        q.cut(1, 1);
        Check.due(Check.STATE, () -> q.fill(1, 1));
        q.lift(0, 1, 1);
        Check.due(Check.STATE, () -> q.fill(1, 1));
        q.lift(0, 1, 1);
        Check.due(5, () -> q.fill(1, 1));
        Check.due(7, () -> q.fill(1, 2));
    }

    private static void promise04Rubble() {
        TerraceQuarry q = new TerraceQuarry();
        q.addWinch(2, 2, 9, 6);
        q.cut(4, 5);
        q.lift(0, 4, 5);
        for (int loads = 4; loads >= 0; loads--) {
            int column = loads;
            Check.due(7, () -> q.fill(0, column));
            Check.due(column, q::rubble);
        }
        Check.due(Check.STATE, () -> q.fill(0, 5));
        Check.due(0, q::rubble);
        Check.due(2, () -> q.crush(0, 1));
        Check.due(7, () -> q.fill(0, 5));
        Check.due(1, q::rubble);
        Check.due(7, () -> q.fill(1, 5));
        Check.due(Check.STATE, () -> q.fill(1, 4));
    }

    private static void promise05LedgesKeepTheRest() {
        TerraceQuarry q = new TerraceQuarry();
        q.setStepLimit(4);
        q.addWinch(2, 2, 9, 6);
        q.setStone(1, 1, 2);
        q.cut(1, 1);
        q.cut(1, 1);
        Check.due(true, () -> q.toggleLedge(1, 1));
        Check.due("6a 4c=.. 6a 6a 6a 6a", () -> Check.line(q, 1));
        Check.due(Check.STATE, () -> q.cut(1, 1));
        Check.due(Check.STATE, () -> q.lift(0, 1, 1));
        Check.due(false, () -> q.toggleLedge(1, 1));
        Check.due(3, () -> q.cut(1, 1));
        Check.due(28, () -> q.lift(0, 1, 1));
        q.toggleLedge(3, 3);
        Check.due(Check.STATE, () -> q.fill(3, 3));
        Check.due(false, () -> q.toggleLedge(3, 3));
        Check.due(7, () -> q.fill(3, 3));
        for (int cell = 0; cell < CELLS; cell++) {
            int c = cell;
            Check.due(true, () -> q.toggleLedge(row(c), column(c)));
        }
        Check.due(0, q::cuttableCells);
        Check.due(0, () -> q.liftableCells(0));
    }

    private static void promise06EachLimit() {
        for (int step = 0; step <= 4; step++) {
            for (int limit = 1; limit <= 4; limit++) {
                TerraceQuarry q = new TerraceQuarry();
                q.setStepLimit(4);
                q.addWinch(2, 2, 9, 6);
                Twins.bring(q, 4, 5, 6 - step);
                int l = limit;
                boolean fits = step <= limit;
                Check.due(fits ? (Object) 4 : Check.UNSUPPORTED, () -> q.setStepLimit(l));
                Check.due(fits ? l : 4, q::stepLimit);
            }
        }
        TerraceQuarry q = new TerraceQuarry();
        Check.due(Check.ARGUMENT, () -> q.setStepLimit(0));
        Check.due(Check.ARGUMENT, () -> q.setStepLimit(5));
        Check.due(1, () -> q.setStepLimit(4));
        Check.due(4, () -> q.setStepLimit(1));
        Check.due(1, () -> q.setStepLimit(1));
    }

    /** The answers are those of cut itself, for each cell of quarries of all kinds. */
    private static void promises16And17CanCut() {
        String[] programs = {"cut 00", "fill 25", "ledge 33", "limit 2;cut 11;cut 11", "limit 3;cut 45;cut 45;cut 45",
            "limit 4;cut 20;cut 20;cut 20;cut 21;fill 30", "limit 2;fill 00;fill 00;cut 05;cut 05;ledge 05"};
        for (String program : programs) {
            TerraceQuarry asked = new TerraceQuarry();
            Check.run(asked, program);
            int cuttable = 0;
            for (int cell = 0; cell < CELLS; cell++) {
                int c = cell;
                TerraceQuarry q = new TerraceQuarry();
                Check.run(q, program);
                boolean can = Check.answerOf(() -> cut(q, c)) instanceof Integer;
                Check.due(can, () -> asked.canCut(row(c), column(c)));
                cuttable += can ? 1 : 0;
            }
            int count = cuttable;
            Check.due(count, asked::cuttableCells);
        }
    }

    private static void promise18EachHeight() {
        for (int height = 0; height <= 9; height++) {
            TerraceQuarry q = corner(Math.min(height, 8));
            int h = height;
            if (h == 9) {
                Twins.bring(q, 4, 5, 9);
            }
            Check.due(h == 4 ? 3 : h == 6 ? 28 : 1, () -> q.cellsAt(h));
        }
        TerraceQuarry q = new TerraceQuarry();
        for (int height = 0; height <= 9; height++) {
            int h = height;
            Check.due(h == 6 ? 30 : 0, () -> q.cellsAt(h));
        }
        Check.due(Check.ARGUMENT, () -> q.cellsAt(-1));
        Check.due(Check.ARGUMENT, () -> q.cellsAt(10));
    }

    private static void lowers(Object want, TerraceQuarry q, int row, int column, int height) {
        Check.due(want, () -> q.cutsToLower(row, column, height));
        Check.due(want, () -> q.cutsToLowerBySpreading(row, column, height));
    }

    private static void promises19And20EachHeight() {
        for (int limit = 1; limit <= 4; limit++) {
            for (int cell = 0; cell < CELLS; cell++) {
                TerraceQuarry q = new TerraceQuarry();
                q.setStepLimit(limit);
                for (int height = 0; height <= 6; height++) {
                    int sum = 0;
                    for (int other = 0; other < CELLS; other++) {
                        sum += Math.max(0, 6 - height - limit * distance(cell, other));
                    }
                    lowers(sum, q, row(cell), column(cell), height);
                }
                lowers(Check.ARGUMENT, q, row(cell), column(cell), 7);
                lowers(Check.ARGUMENT, q, row(cell), column(cell), -1);
            }
        }
    }

    /** A cell of just the height that is allowed is not lowered, one higher by 1 is lowered by 1. */
    private static void promises19And20ExactlyAllowed() {
        for (int limit = 1; limit <= 4; limit++) {
            TerraceQuarry q = new TerraceQuarry();
            q.setStepLimit(limit);
            lowers(limit, q, 2, 2, 6 - limit);
            lowers(limit + 1 + 4, q, 2, 2, 6 - limit - 1);
        }
        TerraceQuarry q = new TerraceQuarry();
        q.fill(0, 1);
        lowers(1, q, 0, 1, 6);
        lowers(0, q, 0, 0, 6);
        lowers(1 + 1, q, 0, 0, 5);
        // Ledges and full stacks do not matter, and nothing is really cut.
        TerraceQuarry given = new TerraceQuarry();
        given.setStepLimit(4);
        for (int cut = 0; cut < 3; cut++) {
            given.cut(2, 2);
            given.cut(2, 3);
        }
        for (int cell = 0; cell < CELLS; cell++) {
            given.toggleLedge(row(cell), column(cell));
        }
        lowers(3 + 3 * 2, given, 2, 2, 0);
        Check.due("6a= 6a= 3a=... 3a=... 6a= 6a=", () -> Check.line(given, 2));
        Check.due(6, given::cutTotal);
    }

    private static void promises19And20Range() {
        TerraceQuarry q = corner(0);
        lowers(0, q, 0, 0, 0);
        lowers(Check.ARGUMENT, q, 0, 0, 1);
        lowers(Check.ARGUMENT, q, 0, 0, -1);
        Twins.bring(q, 4, 5, 9);
        lowers(0, q, 4, 5, 9);
        lowers(1, q, 4, 5, 8);
        lowers(Check.ARGUMENT, q, 4, 5, 10);
        lowers(Check.ARGUMENT, q, 4, 4, 7);
        lowers(0, q, 4, 4, 6);
    }

    private static void allCellsAtHeightZero() {
        TerraceQuarry q = new TerraceQuarry();
        q.addWinch(2, 2, 2, 5);
        for (int height = 5; height >= 0; height--) {
            for (int cell = 0; cell < CELLS; cell++) {
                cut(q, cell);
                if (height >= 3) {
                    q.lift(0, row(cell), column(cell));
                }
            }
        }
        Check.due(30, () -> q.cellsAt(0));
        Check.due(0, q::cuttableCells);
        Check.due(0.0, q::meanHeight);
        Check.due(180, q::cutTotal);
        Check.due(0.5f, q::liftedShare);
        Check.due(90 * 2 * 6L, q::workTotal);
        Check.due(90, () -> q.inYard(0));
        Check.due(0, q::seamCount);
        Check.due(0, q::seamCountByMerging);
        Check.due(0, () -> q.seamSize(4, 5));
        Check.due(0, () -> q.seamVolume(4, 5));
        Check.due(9, () -> q.footpath(0, 0, 4, 5));
        Check.due(30, () -> q.liftableCells(0));
        lowers(0, q, 2, 2, 0);
        lowers(Check.ARGUMENT, q, 2, 2, 1);
        Check.due(true, q::isConsistent);
        Check.due(40, () -> q.lift(0, 0, 0) + q.lift(0, 4, 5));
    }

    private static void allCellsAtHeightNine() {
        TerraceQuarry q = new TerraceQuarry();
        q.addWinch(2, 2, 2, 5);
        for (int round = 0; round < 3; round++) {
            for (int cell = 0; cell < CELLS && q.cutTotal() < 85; cell++) {
                cut(q, cell);
                q.lift(0, row(cell), column(cell));
            }
        }
        for (int twenty = 0; twenty < 4; twenty++) {
            q.crush(0, 20);
        }
        Check.due(175, () -> q.crush(0, 5));
        fillAllToNine(q);
    }

    /** Takes up where the heights are 3, and 4 in the last 5 cells. */
    private static void fillAllToNine(TerraceQuarry q) {
        for (int height = 4; height <= 9; height++) {
            for (int cell = 0; cell < CELLS; cell++) {
                if (height > 4 || cell < 25) {
                    fill(q, cell);
                }
            }
        }
        Check.due(0, q::rubble);
        Check.due(30, () -> q.cellsAt(9));
        Check.due(9.0, q::meanHeight);
        Check.due(30, q::cuttableCells);
        Check.due(1, q::seamCount);
        Check.due(30, () -> q.seamSize(0, 0));
        Check.due(270, () -> q.seamVolume(0, 0));
        lowers(135, q, 0, 0, 0);
        lowers(0, q, 0, 0, 9);
        lowers(Check.ARGUMENT, q, 0, 0, 10);
        Check.due(true, q::isConsistent);
    }
}
