/** The edges of seams and footpaths, and the invariants (promises 21 to 25 and 37). */
public final class SeamEdgesTest {
    private static final int CELLS = 30;

    public static void main(String[] args) {
        seamsOfNeighboursAlone();
        promises21To24HeightOneAndZero();
        promises21To24DividedByHeightZero();
        promises21To24LedgesAndBlocksDoNotMatter();
        promises21To24StonesDivide();
        promises23And24FromOneToThirty();
        promises23And24Rings();
        footpathsOfNeighboursAlone();
        promise25SameCell();
        promise25StepOneAndTwo();
        promise25LimitDoesNotMatter();
        promise25Distances();
        promise25LongWay();
        promise25CutOff();
        promise37HoldsAlways();
        Check.end("SeamEdgesTest");
    }

    private static int row(int cell) {
        return cell / 6;
    }

    private static int column(int cell) {
        return cell % 6;
    }

    private static int distance(int cell, int other) {
        return Math.abs(row(cell) - row(other)) + Math.abs(column(cell) - column(other));
    }

    private static void seams(TerraceQuarry q, int count) {
        Check.due(count, q::seamCount);
        Check.due(count, q::seamCountByMerging);
    }

    private static void seam(TerraceQuarry q, int row, int column, int size, int volume) {
        Check.due(size, () -> q.seamSize(row, column));
        Check.due(volume, () -> q.seamVolume(row, column));
    }

    /** Two cells of the stone 1 among others: one seam if they are neighbours. */
    private static void seamsOfNeighboursAlone() {
        for (int i = 0; i < CELLS * CELLS; i++) {
            int cell = i / CELLS;
            int other = i % CELLS;
            if (cell != other) {
                TerraceQuarry q = new TerraceQuarry();
                q.setStone(row(cell), column(cell), 1);
                q.setStone(row(other), column(other), 1);
                q.cut(row(other), column(other));
                boolean near = distance(cell, other) == 1;
                seam(q, row(cell), column(cell), near ? 2 : 1, near ? 11 : 6);
                seam(q, row(other), column(other), near ? 2 : 1, near ? 11 : 5);
                Check.due(q.seamCount(), q::seamCountByMerging);
            }
        }
    }

    private static TerraceQuarry corner(int height) {
        TerraceQuarry q = new TerraceQuarry();
        q.setStepLimit(4);
        q.addWinch(2, 2, 9, 6);
        Twins.bring(q, 0, 1, 4);
        Twins.bring(q, 1, 0, 4);
        Twins.bring(q, 0, 0, height);
        return q;
    }

    private static void promises21To24HeightOneAndZero() {
        TerraceQuarry one = corner(1);
        seams(one, 1);
        seam(one, 0, 0, 30, 1 + 8 + 27 * 6);
        one.setStone(0, 0, 1);
        seams(one, 2);
        seam(one, 0, 0, 1, 1);
        seam(one, 0, 1, 29, 8 + 27 * 6);
        TerraceQuarry zero = corner(0);
        seams(zero, 1);
        seam(zero, 0, 0, 0, 0);
        seam(zero, 0, 1, 29, 8 + 27 * 6);
        zero.setStone(0, 0, 1);
        seams(zero, 1);
        seam(zero, 0, 0, 0, 0);
    }

    /** The heights fall to 0 at the corner 0, 0 and its neighbours. */
    private static void promises21To24DividedByHeightZero() {
        TerraceQuarry q = new TerraceQuarry();
        q.addWinch(0, 0, 9, 6);
        for (int height = 5; height >= 0; height--) {
            for (int cell = 0; cell < CELLS; cell++) {
                if (distance(cell, 0) <= height + 1) {
                    q.cut(row(cell), column(cell));
                    q.lift(0, row(cell), column(cell));
                }
            }
        }
        Check.due(true, q::isConsistent);
        int zeros = q.cellsAt(0);
        Check.due(3, () -> zeros);
        seams(q, 1);
        seam(q, 0, 1, 0, 0);
        // The corner is filled again: it is a seam of its own behind cells of the height 0.
        q.fill(0, 0);
        seams(q, 2);
        seam(q, 0, 0, 1, 1);
        Check.due(27, () -> q.seamSize(4, 5));
        q.setStone(0, 0, 2);
        seams(q, 2);
        q.fill(0, 1);
        seams(q, 2);
        seam(q, 0, 0, 1, 1);
        Check.due(28, () -> q.seamSize(0, 1));
        q.setStone(0, 0, 0);
        seams(q, 1);
        Check.due(29, () -> q.seamSize(0, 0));
        seam(q, 1, 0, 0, 0);
    }

    private static void promises21To24LedgesAndBlocksDoNotMatter() {
        TerraceQuarry q = new TerraceQuarry();
        q.cut(2, 2);
        q.toggleLedge(2, 3);
        q.addWinch(2, 2, 9, 6);
        seams(q, 1);
        seam(q, 2, 2, 30, 179);
        seam(q, 2, 3, 30, 179);
    }

    private static void promises21To24StonesDivide() {
        for (int stone = 1; stone <= 3; stone++) {
            TerraceQuarry q = new TerraceQuarry();
            for (int row = 0; row < 5; row++) {
                q.setStone(row, 2, stone);
            }
            seams(q, 3);
            seam(q, 0, 2, 5, 30);
            seam(q, 4, 1, 10, 60);
            seam(q, 4, 3, 15, 90);
            q.setStone(4, 2, 0);
            seams(q, 2);
            seam(q, 4, 2, 26, 156);
            seam(q, 0, 2, 4, 24);
        }
    }

    private static void promises23And24FromOneToThirty() {
        TerraceQuarry q = new TerraceQuarry();
        seams(q, 1);
        for (int cell = 0; cell < CELLS; cell++) {
            q.setStone(row(cell), column(cell), row(cell) % 2 * 2 + column(cell) % 2);
        }
        seams(q, 30);
        for (int cell = 0; cell < CELLS; cell++) {
            seam(q, row(cell), column(cell), 1, 6);
        }
        // Neighbours over a corner do not touch.
        for (int cell = 0; cell < CELLS; cell++) {
            q.setStone(row(cell), column(cell), (row(cell) + column(cell)) % 2 * 3);
        }
        seams(q, 30);
        q.setStone(0, 0, 3);
        seams(q, 28);
        seam(q, 0, 0, 3, 18);
    }

    /** A ring and what it encloses; cells that touch a seam from several sides are counted once. */
    private static void promises23And24Rings() {
        TerraceQuarry q = new TerraceQuarry();
        for (int cell = 0; cell < CELLS; cell++) {
            boolean ring = row(cell) >= 1 && row(cell) <= 3 && column(cell) >= 1 && column(cell) <= 4;
            q.setStone(row(cell), column(cell), ring ? 1 : 0);
        }
        seams(q, 2);
        seam(q, 0, 0, 18, 108);
        seam(q, 1, 1, 12, 72);
        q.setStone(2, 2, 0);
        q.setStone(2, 3, 0);
        seams(q, 3);
        seam(q, 2, 2, 2, 12);
        seam(q, 1, 4, 10, 60);
        q.setStone(2, 1, 0);
        seams(q, 2);
        seam(q, 2, 3, 21, 126);
        q.setStone(2, 4, 0);
        seams(q, 3);
        seam(q, 3, 1, 4, 24);
        seam(q, 0, 5, 22, 132);
    }

    private static void footpathsOfNeighboursAlone() {
        for (int i = 0; i < CELLS * CELLS; i++) {
            int cell = i / CELLS;
            int other = i % CELLS;
            TerraceQuarry q = new TerraceQuarry();
            for (int ledge = 0; ledge < CELLS; ledge++) {
                if (ledge != cell && ledge != other) {
                    q.toggleLedge(row(ledge), column(ledge));
                }
            }
            int distance = distance(cell, other);
            Check.due(distance <= 1 ? (Object) distance : Check.MISSING,
                    () -> q.footpath(row(cell), column(cell), row(other), column(other)));
        }
    }

    private static void promise25SameCell() {
        for (int cell = 0; cell < CELLS; cell++) {
            TerraceQuarry q = new TerraceQuarry();
            int r = row(cell);
            int c = column(cell);
            Check.due(0, () -> q.footpath(r, c, r, c));
            q.toggleLedge(r, c);
            Check.due(Check.MISSING, () -> q.footpath(r, c, r, c));
            q.toggleLedge(r, c);
            Check.due(0, () -> q.footpath(r, c, r, c));
        }
    }

    private static void promise25StepOneAndTwo() {
        TerraceQuarry q = new TerraceQuarry();
        q.setStepLimit(4);
        q.cut(2, 2);
        Check.due(1, () -> q.footpath(2, 2, 2, 3));
        Check.due(1, () -> q.footpath(2, 3, 2, 2));
        q.cut(2, 2);
        Check.due(Check.MISSING, () -> q.footpath(2, 2, 2, 3));
        Check.due(Check.MISSING, () -> q.footpath(2, 3, 2, 2));
        Check.due(0, () -> q.footpath(2, 2, 2, 2));
        q.fill(4, 5);
        Check.due(1, () -> q.footpath(4, 5, 4, 4));
        Check.due(1, () -> q.footpath(4, 4, 4, 5));
        q.fill(4, 5);
        Check.due(Check.MISSING, () -> q.footpath(4, 5, 4, 4));
        Check.due(Check.MISSING, () -> q.footpath(4, 4, 4, 5));
        // Up by 1 twice, over the cell between.
        q.fill(4, 4);
        Check.due(1, () -> q.footpath(4, 5, 4, 4));
        Check.due(2, () -> q.footpath(4, 3, 4, 5));
        Check.due(3, () -> q.footpath(3, 5, 4, 5));
    }

    private static void promise25LimitDoesNotMatter() {
        for (int limit = 1; limit <= 4; limit++) {
            TerraceQuarry q = new TerraceQuarry();
            q.setStepLimit(limit);
            q.cut(2, 2);
            Check.due(2, () -> q.footpath(2, 1, 2, 3));
            if (limit > 1) {
                q.cut(2, 2);
                Check.due(4, () -> q.footpath(2, 1, 2, 3));
            }
        }
    }

    private static void promise25Distances() {
        TerraceQuarry q = new TerraceQuarry();
        for (int cell = 0; cell < CELLS; cell += 7) {
            for (int other = 0; other < CELLS; other++) {
                int c = cell;
                int o = other;
                Check.due(distance(c, o), () -> q.footpath(row(c), column(c), row(o), column(o)));
                Check.due(distance(c, o), () -> q.footpath(row(o), column(o), row(c), column(c)));
            }
        }
    }

    /** Ledges leave one way through all rows: 6 cells each, with a cell between two rows. */
    private static void promise25LongWay() {
        TerraceQuarry q = new TerraceQuarry();
        for (int column = 0; column < 6; column++) {
            if (column != 5) {
                q.toggleLedge(1, column);
            }
            if (column != 0) {
                q.toggleLedge(3, column);
            }
        }
        Check.due(19, () -> q.footpath(0, 0, 4, 5));
        Check.due(19, () -> q.footpath(4, 5, 0, 0));
        Check.due(12, () -> q.footpath(0, 0, 2, 0));
        q.toggleLedge(1, 0);
        Check.due(9, () -> q.footpath(0, 0, 4, 5));
        q.toggleLedge(1, 0);
        q.toggleLedge(1, 5);
        Check.due(Check.MISSING, () -> q.footpath(0, 0, 4, 5));
        Check.due(7, () -> q.footpath(2, 5, 4, 0));
    }

    private static void promise25CutOff() {
        TerraceQuarry q = new TerraceQuarry();
        q.toggleLedge(0, 1);
        Check.due(3, () -> q.footpath(0, 0, 1, 2));
        Check.due(4, () -> q.footpath(0, 0, 0, 2));
        q.toggleLedge(1, 0);
        Check.due(Check.MISSING, () -> q.footpath(0, 0, 0, 2));
        Check.due(Check.MISSING, () -> q.footpath(0, 2, 0, 0));
        Check.due(0, () -> q.footpath(0, 0, 0, 0));
        Check.due(Check.MISSING, () -> q.footpath(0, 0, 0, 1));
        Check.due(Check.MISSING, () -> q.footpath(0, 1, 0, 0));
    }

    /** No call of the face can break an invariant, so that the other answer cannot come up. */
    private static void promise37HoldsAlways() {
        TerraceQuarry[] all = {new TerraceQuarry(), corner(0), corner(1), Twins.make(Twins::busy)};
        for (TerraceQuarry q : all) {
            Check.due(true, q::isConsistent);
            q.cut(3, 3);
            Check.due(true, q::isConsistent);
            q.save();
            q.setStone(3, 2, 3);
            q.toggleLedge(3, 3);
            Check.due(true, q::isConsistent);
            q.undo();
            Check.due(true, q::isConsistent);
            q.restore();
            Check.due(true, q::isConsistent);
        }
    }
}
