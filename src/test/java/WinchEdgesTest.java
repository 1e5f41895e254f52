/** The edges of winches, blocks and the yard, and of the totals (promises 7 to 9, 26 to 31, 33 to 36). */
public final class WinchEdgesTest {
    private static final int CELLS = 30;

    public static void main(String[] args) {
        promise07EachCapacityAndReach();
        promise07AtMostThree();
        promise07OneAtEachCell();
        promise08EachCapacityAndStone();
        promise08EachReach();
        promise08EachHeight();
        promise08LastOfThree();
        promise09EachNumber();
        promise09ExactlyTheYard();
        promise09EachStone();
        promise26Count();
        promise27EachCell();
        promise28LeastCapacity();
        promise28Ties();
        promise28OnlyThoseThatCould();
        promises29And30Yard();
        promises33To36Totals();
        Check.end("WinchEdgesTest");
    }

    private static int row(int cell) {
        return cell / 6;
    }

    private static int column(int cell) {
        return cell % 6;
    }

    private static int distance(int cell, int other) {
        return Math.abs(row(cell) - row(other)) + Math.abs(column(cell) - column(other));
    }

    private static void promise07EachCapacityAndReach() {
        for (int capacity = 0; capacity <= 11; capacity++) {
            for (int reach = -1; reach <= 8; reach++) {
                TerraceQuarry q = new TerraceQuarry();
                int c = capacity;
                int r = reach;
                boolean fits = c >= 2 && c <= 9 && r >= 1 && r <= 6;
                Check.due(fits ? (Object) 0 : Check.ARGUMENT, () -> q.addWinch(0, 0, c, r));
                Check.due(fits ? 1 : 0, q::winchCount);
                Check.due(fits ? "6a^ 6a 6a 6a 6a 6a" : "6a 6a 6a 6a 6a 6a", () -> Check.line(q, 0));
            }
        }
    }

    private static void promise07AtMostThree() {
        TerraceQuarry q = new TerraceQuarry();
        Check.due(0, () -> q.addWinch(0, 5, 9, 6));
        Check.due(1, () -> q.addWinch(1, 0, 9, 6));
        Check.due(2, () -> q.addWinch(4, 5, 2, 1));
        Check.due(Check.STATE, () -> q.addWinch(3, 3, 9, 6));
        Check.due(3, q::winchCount);
        Check.due("6a 6a 6a 6a 6a 6a^", () -> Check.line(q, 0));
        Check.due("6a^ 6a 6a 6a 6a 6a", () -> Check.line(q, 1));
        Check.due("6a 6a 6a 6a 6a 6a^", () -> Check.line(q, 4));
        // One that is undone makes room for another one.
        q.undo();
        Check.due(2, q::winchCount);
        Check.due(2, () -> q.addWinch(3, 3, 9, 6));
        Check.due(Check.STATE, () -> q.addWinch(4, 5, 2, 1));
    }

    private static void promise07OneAtEachCell() {
        for (int cell = 0; cell < CELLS; cell++) {
            TerraceQuarry q = new TerraceQuarry();
            q.addWinch(2, 3, 9, 6);
            int c = cell;
            boolean taken = cell == 15;
            Check.due(taken ? Check.STATE : (Object) 1, () -> q.addWinch(row(c), column(c), 2, 1));
        }
        TerraceQuarry q = new TerraceQuarry();
        q.addWinch(0, 0, 9, 6);
        q.addWinch(0, 1, 9, 6);
        Check.due(Check.STATE, () -> q.addWinch(0, 0, 9, 6));
        Check.due(Check.STATE, () -> q.addWinch(0, 1, 9, 6));
        // A ledge, a stack or a high cell is no hindrance.
        q.cut(4, 4);
        q.toggleLedge(4, 4);
        Check.due(2, () -> q.addWinch(4, 4, 2, 1));
    }

    private static void promise08EachCapacityAndStone() {
        for (int capacity = 2; capacity <= 9; capacity++) {
            for (int stone = 0; stone <= 3; stone++) {
                TerraceQuarry q = new TerraceQuarry();
                q.setStone(1, 1, stone);
                q.cut(1, 1);
                q.addWinch(1, 1, capacity, 1);
                int weight = 2 + stone;
                boolean light = weight <= capacity;
                int s = stone;
                Check.due(light ? 1 : 0, () -> q.liftableCells(0));
                Check.due(light ? (Object) 0 : Check.MISSING, () -> q.bestWinch(1, 1));
                Check.due(light ? (Object) (weight * 5) : Check.UNSUPPORTED, () -> q.lift(0, 1, 1));
                Check.due(light ? 1 : 0, () -> q.inYard(s));
                Check.due(light ? weight : 0, q::yardWeight);
                Check.due(light ? 0 : 1, () -> q.looseBlocks(1, 1));
            }
        }
    }

    /** Rows and columns count alike, on each side of the winch. */
    private static void promise08EachReach() {
        int[] places = {0, 5, 14, 24, 29};
        for (int place : places) {
            for (int reach = 1; reach <= 6; reach++) {
                TerraceQuarry q = new TerraceQuarry();
                q.addWinch(row(place), column(place), 2, reach);
                int within = 0;
                for (int cell = 0; cell < CELLS; cell++) {
                    q.cut(row(cell), column(cell));
                    within += distance(place, cell) <= reach ? 1 : 0;
                }
                int count = within;
                Check.due(count, () -> q.liftableCells(0));
                for (int cell = 0; cell < CELLS; cell++) {
                    int c = cell;
                    boolean reached = distance(place, cell) <= reach;
                    Check.due(reached ? (Object) 0 : Check.MISSING, () -> q.bestWinch(row(c), column(c)));
                    Check.due(reached ? (Object) 10 : Check.UNSUPPORTED, () -> q.lift(0, row(c), column(c)));
                }
                Check.due(0, () -> q.liftableCells(0));
                Check.due(count, () -> q.inYard(0));
            }
        }
    }

    private static void promise08EachHeight() {
        for (int height = 0; height <= 8; height++) {
            for (int stone = 0; stone <= 3; stone++) {
                TerraceQuarry q = new TerraceQuarry();
                q.setStepLimit(4);
                q.addWinch(2, 2, 9, 6);
                if (height < 2) {
                    Twins.bring(q, 0, 1, 4);
                    Twins.bring(q, 1, 0, 4);
                }
                Twins.bring(q, 0, 0, height + 1);
                q.setStone(0, 0, stone);
                q.cut(0, 0);
                int work = (2 + stone) * (10 - height);
                long before = q.workTotal();
                Check.due(work, () -> q.lift(0, 0, 0));
                Check.due(before + work, q::workTotal);
            }
        }
    }

    private static void promise08LastOfThree() {
        TerraceQuarry q = new TerraceQuarry();
        q.addWinch(0, 0, 2, 1);
        q.addWinch(0, 2, 2, 1);
        q.cut(4, 5);
        Check.due(Check.INDEX, () -> q.lift(2, 4, 5));
        Check.due(Check.INDEX, () -> q.liftableCells(2));
        q.addWinch(4, 4, 2, 1);
        Check.due(1, () -> q.liftableCells(2));
        Check.due(Check.INDEX, () -> q.lift(3, 4, 5));
        Check.due(Check.UNSUPPORTED, () -> q.lift(1, 4, 5));
        Check.due(10, () -> q.lift(2, 4, 5));
        Check.due(Check.MISSING, () -> q.lift(2, 4, 5));
    }

    private static TerraceQuarry yard(int blocks) {
        return Twins.make(q -> RefusedTest.liftMany(q, blocks));
    }

    private static void promise09EachNumber() {
        for (int blocks = 0; blocks <= 22; blocks++) {
            TerraceQuarry q = yard(22);
            int b = blocks;
            boolean fits = b >= 1 && b <= 20;
            Check.due(fits ? (Object) (5 + 2 * b) : Check.ARGUMENT, () -> q.crush(0, b));
            Check.due(fits ? 22 - b : 22, () -> q.inYard(0));
            Check.due(fits ? 5 + 2 * b : 5, q::rubble);
        }
    }

    private static void promise09ExactlyTheYard() {
        for (int blocks = 0; blocks <= 20; blocks++) {
            TerraceQuarry q = yard(blocks);
            int b = blocks;
            Check.due(b < 20 ? Check.STATE : Check.ARGUMENT, () -> q.crush(0, b + 1));
            if (b > 0) {
                Check.due(5 + 2 * b, () -> q.crush(0, b));
            }
            Check.due(0, () -> q.inYard(0));
            Check.due(Check.STATE, () -> q.crush(0, 1));
        }
    }

    private static void promise09EachStone() {
        for (int stone = 0; stone <= 3; stone++) {
            TerraceQuarry q = new TerraceQuarry();
            q.addWinch(2, 2, 9, 6);
            for (int other = 0; other <= 3; other++) {
                q.setStone(0, other, other);
                q.cut(0, other);
                q.lift(0, 0, other);
            }
            int s = stone;
            Check.due(Check.STATE, () -> q.crush(s, 2));
            Check.due(7, () -> q.crush(s, 1));
            for (int other = 0; other <= 3; other++) {
                int o = other;
                Check.due(o == s ? 0 : 1, () -> q.inYard(o));
            }
            Check.due(14 - (2 + s), q::yardWeight);
            Check.due(Check.STATE, () -> q.crush(s, 1));
        }
    }

    private static void promise26Count() {
        TerraceQuarry q = new TerraceQuarry();
        for (int count = 0; count <= 3; count++) {
            int n = count;
            Check.due(n, q::winchCount);
            Check.due(Check.INDEX, () -> q.liftableCells(n));
            Check.due(n == 3 ? Check.STATE : (Object) n, () -> q.addWinch(n, n, 2, 1));
        }
        Check.due(3, q::winchCount);
        for (int left = 2; left >= 0; left--) {
            int n = left;
            q.undo();
            Check.due(n, q::winchCount);
        }
    }

    /** From no cell to all of them. */
    private static void promise27EachCell() {
        TerraceQuarry q = new TerraceQuarry();
        q.addWinch(2, 2, 2, 5);
        q.addWinch(0, 0, 9, 6);
        for (int cell = 0; cell < CELLS; cell++) {
            int c = cell;
            Check.due(c, () -> q.liftableCells(0));
            q.cut(row(cell), column(cell));
        }
        Check.due(30, () -> q.liftableCells(0));
        Check.due(24, () -> q.liftableCells(1));
        q.toggleLedge(0, 0);
        Check.due(29, () -> q.liftableCells(0));
        Check.due(23, () -> q.liftableCells(1));
        q.toggleLedge(0, 0);
        Check.due(30, () -> q.liftableCells(0));
        // Only the top block counts.
        q.setStone(1, 1, 1);
        q.cut(1, 1);
        Check.due(29, () -> q.liftableCells(0));
        Check.due(24, () -> q.liftableCells(1));
        q.lift(1, 1, 1);
        Check.due(30, () -> q.liftableCells(0));
    }

    private static void promise28LeastCapacity() {
        int[][] orders = {{4, 3, 2}, {2, 3, 4}, {3, 2, 4}, {9, 8, 7}, {4, 2, 3}};
        for (int[] order : orders) {
            TerraceQuarry q = new TerraceQuarry();
            q.cut(2, 2);
            int least = 0;
            for (int winch = 0; winch < 3; winch++) {
                q.addWinch(1, winch, order[winch], 6);
                least = order[winch] < order[least] ? winch : least;
                int best = least;
                Check.due(best, () -> q.bestWinch(2, 2));
            }
        }
    }

    private static void promise28Ties() {
        TerraceQuarry q = new TerraceQuarry();
        q.cut(2, 2);
        q.addWinch(0, 0, 5, 6);
        q.addWinch(0, 1, 3, 6);
        q.addWinch(0, 2, 3, 6);
        Check.due(1, () -> q.bestWinch(2, 2));
        TerraceQuarry same = new TerraceQuarry();
        same.cut(2, 2);
        same.addWinch(0, 0, 2, 6);
        same.addWinch(0, 1, 2, 6);
        same.addWinch(0, 2, 2, 6);
        Check.due(0, () -> same.bestWinch(2, 2));
        // The nearest winch is not better than another one.
        same.undo();
        same.addWinch(2, 2, 3, 1);
        Check.due(0, () -> same.bestWinch(2, 2));
    }

    private static void promise28OnlyThoseThatCould() {
        TerraceQuarry q = new TerraceQuarry();
        q.setStepLimit(2);
        q.cut(2, 2);
        q.setStone(2, 2, 2);
        q.cut(2, 2);
        q.addWinch(2, 2, 3, 6);
        Check.due(Check.MISSING, () -> q.bestWinch(2, 2));
        q.addWinch(0, 0, 4, 3);
        Check.due(Check.MISSING, () -> q.bestWinch(2, 2));
        q.addWinch(0, 1, 5, 3);
        Check.due(2, () -> q.bestWinch(2, 2));
        q.undo();
        q.addWinch(1, 0, 4, 3);
        Check.due(2, () -> q.bestWinch(2, 2));
        q.lift(2, 2, 2);
        // The block below is light enough for the first winch.
        Check.due(0, () -> q.bestWinch(2, 2));
        q.lift(0, 2, 2);
        Check.due(Check.MISSING, () -> q.bestWinch(2, 2));
    }

    private static void promises29And30Yard() {
        TerraceQuarry q = new TerraceQuarry();
        Check.due(0, q::yardWeight);
        for (int stone = -1; stone <= 4; stone++) {
            int s = stone;
            Check.due(s < 0 || s > 3 ? Check.ARGUMENT : (Object) 0, () -> q.inYard(s));
        }
        q.addWinch(2, 2, 9, 6);
        int weight = 0;
        for (int cell = 0; cell < 12; cell++) {
            int s = cell % 4;
            q.setStone(row(cell), column(cell), s);
            q.cut(row(cell), column(cell));
            int before = weight;
            Check.due(before, q::yardWeight);
            q.lift(0, row(cell), column(cell));
            weight += 2 + s;
            int after = weight;
            Check.due(after, q::yardWeight);
            int number = cell / 4 + 1;
            Check.due(number, () -> q.inYard(s));
        }
        // The stone of a cell does not change the blocks in the yard.
        q.setStone(0, 0, 3);
        Check.due(3 * 14, q::yardWeight);
    }

    private static void promises33To36Totals() {
        TerraceQuarry q = new TerraceQuarry();
        Check.due(0, q::cutTotal);
        Check.due(0L, q::workTotal);
        Check.due(6.0, q::meanHeight);
        Check.due(Check.ARITHMETIC, q::liftedShare);
        q.cut(0, 0);
        Check.due(1, q::cutTotal);
        Check.due(0.0f, q::liftedShare);
        q.addWinch(0, 0, 9, 6);
        q.lift(0, 0, 0);
        Check.due(1.0f, q::liftedShare);
        Check.due(179.0 / 30.0, q::meanHeight);
        q.fill(0, 0);
        Check.due(6.0, q::meanHeight);
        q.fill(0, 0);
        Check.due(181.0 / 30.0, q::meanHeight);
        Check.due(1, q::cutTotal);
        q.crush(0, 1);
        Check.due(1.0f, q::liftedShare);
        // All of it is undone, so that there were no cuts.
        for (int i = 0; i < 6; i++) {
            q.undo();
        }
        Check.due(Check.ARITHMETIC, q::liftedShare);
        Check.due(0, q::cutTotal);
        Check.due(0L, q::workTotal);
        thirds();
    }

    private static void thirds() {
        TerraceQuarry q = new TerraceQuarry();
        q.addWinch(2, 2, 9, 6);
        for (int cuts = 1; cuts <= CELLS; cuts++) {
            int cell = cuts - 1;
            q.cut(row(cell), column(cell));
            if (cuts % 3 == 0) {
                q.lift(0, row(cell), column(cell));
            }
            int n = cuts;
            Check.due((float) (n / 3) / (float) n, q::liftedShare);
            Check.due((double) (180 - n) / 30.0, q::meanHeight);
            Check.due(n / 3 * 10L, q::workTotal);
        }
    }
}
