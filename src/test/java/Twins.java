import java.util.ArrayList;
import java.util.List;

/**
 * Objects that were made by the same calls, to compare what later calls show of them. Each look takes an object of its
 * own, so that a look may change what it looks at, and no object is used for more than its 512 calls.
 */
final class Twins {
    interface Steps {
        void on(TerraceQuarry quarry);
    }

    interface Act {
        Object on(TerraceQuarry quarry);
    }

    interface CellAct {
        Object on(TerraceQuarry quarry, int row, int column);
    }

    static final Steps NEW = q -> { };

    /** The last numbers, times 6, come round to the number of a cell, and so do several of the first ones. */
    static final int[][] OUTSIDE = {{-1, 0}, {-1, 5}, {5, 0}, {5, 5}, {0, -1}, {4, -1}, {0, 6}, {4, 6}, {-1, 6}, {1, -1},
        {3, 6}, {5, -1}, {-1, -1}, {5, 6}, {Integer.MIN_VALUE, 0}, {Integer.MAX_VALUE, 0}, {0, Integer.MIN_VALUE},
        {0, Integer.MAX_VALUE}, {Integer.MIN_VALUE, Integer.MIN_VALUE}, {Integer.MAX_VALUE, Integer.MAX_VALUE},
        {715827883, 0}, {1431655766, 0}, {-715827882, 0}};

    private static final int MOST_UNDOS = 9;
    private static final int LOOKS = MOST_UNDOS + 6;

    private Twins() {
    }

    static TerraceQuarry make(Steps steps) {
        TerraceQuarry quarry = new TerraceQuarry();
        steps.on(quarry);
        return quarry;
    }

    static Steps then(Steps first, Steps more) {
        return q -> {
            first.on(q);
            more.on(q);
        };
    }

    /** Everything that a call could change is something else here than at first, and the history is full. */
    static void busy(TerraceQuarry q) {
        busyWithoutText(q);
        Check.type(q, "cut 4");
    }

    static void busyWithoutText(TerraceQuarry q) {
        q.setStepLimit(4);
        q.addWinch(2, 2, 9, 6);
        q.setStone(4, 5, 3);
        q.cut(4, 5);
        q.setStone(4, 5, 2);
        q.cut(4, 5);
        q.cut(0, 4);
        q.save();
        q.lift(0, 0, 4);
        q.fill(4, 0);
        q.lift(0, 4, 5);
        q.crush(2, 1);
        q.toggleLedge(0, 5);
        q.setStone(4, 5, 1);
        Check.answerOf(() -> Check.run(q, "cut 45;cut 99"));
        Check.answerOf(() -> Check.run(q, "cut"));
        q.writeRow(4);
    }

    static Steps busyAnd(Steps more) {
        return then(Twins::busy, more);
    }

    /** Cuts, lifts by the winch 0 and fills, until the cell has this height and no loose block. */
    static void bring(TerraceQuarry q, int row, int column, int height) {
        for (int i = 0; i < 9 && q.height(row, column) > height; i++) {
            q.cut(row, column);
            q.lift(0, row, column);
        }
        for (int i = 0; i < 9 && q.height(row, column) < height; i++) {
            q.fill(row, column);
        }
    }

    /** Each of these calls is refused so, and no later call shows that they were made. */
    static void refused(Class<?> want, Steps steps, Act... calls) {
        for (Act call : calls) {
            TerraceQuarry quarry = make(steps);
            Check.due(want, () -> call.on(quarry));
        }
        Steps refusedOnes = q -> {
            for (Act call : calls) {
                Check.answerOf(() -> call.on(q));
            }
        };
        same(steps, then(steps, refusedOnes));
    }

    static void refusedOutside(CellAct call) {
        List<Act> calls = new ArrayList<>();
        for (int[] cell : OUTSIDE) {
            calls.add(q -> call.on(q, cell[0], cell[1]));
        }
        refused(Check.INDEX, Twins::busy, calls.toArray(new Act[0]));
    }

    /** No later call tells the one object from the other. */
    static void same(Steps one, Steps other) {
        for (int number = 0; number < LOOKS; number++) {
            int i = number;
            String want = look(make(one), i, true);
            Check.due(want, () -> look(make(other), i, true));
        }
    }

    /** The same but for the text buffer, the error position, the failed command and the output line. */
    static void sameState(Steps one, Steps other) {
        for (int number = 0; number < LOOKS - 2; number++) {
            int i = number;
            String want = look(make(one), i, false);
            Check.due(want, () -> look(make(other), i, false));
        }
    }

    private static String look(TerraceQuarry q, int number, boolean texts) {
        switch (number - MOST_UNDOS) {
            case 0: return Check.answerOf(() -> restored(q)) + now(q, texts) + Check.answerOf(q::undo);
            case 1: return lifted(q);
            case 2: return rows(q);
            case 3: return reached(q);
            case 4: return "" + Check.answerOf(() -> q.append('5')) + Check.answerOf(q::run) + now(q, texts);
            case 5: return filledUp(q);
            default: return undone(q, number) + now(q, texts);
        }
    }

    private static String now(TerraceQuarry q, boolean texts) {
        StringBuilder all = new StringBuilder(Check.stateOf(q));
        all.append(' ').append(q.cuttableCells()).append(' ').append(q.seamCount());
        all.append(' ').append(q.seamCountByMerging()).append(' ').append(q.isConsistent());
        all.append(' ').append(q.yardWeight()).append(' ').append(q.meanHeight());
        if (texts) {
            all.append(' ').append(Check.answerOf(q::errorPosition));
            all.append(' ').append(Check.answerOf(q::failedCommand)).append(' ').append(written(q));
        }
        return all.toString();
    }

    /** What stands in the output line, without writing it anew. */
    static String written(TerraceQuarry q) {
        StringBuilder line = new StringBuilder();
        for (int i = 0; i < 60; i++) {
            int index = i;
            Object sign = Check.answerOf(() -> q.outputAt(index));
            if (!(sign instanceof Character)) {
                return line.toString();
            }
            line.append(sign);
        }
        return line.toString();
    }

    private static Object restored(TerraceQuarry q) {
        q.restore();
        return "restored";
    }

    private static String undone(TerraceQuarry q, int times) {
        StringBuilder answers = new StringBuilder();
        for (int i = 0; i < times; i++) {
            answers.append(Check.answerOf(q::undo)).append(' ');
        }
        return answers.toString();
    }

    /** Shows the whole stacks. */
    private static String lifted(TerraceQuarry q) {
        StringBuilder answers = new StringBuilder();
        for (int cell = 0; cell < 30; cell++) {
            int r = cell / 6;
            int c = cell % 6;
            if (q.isLedge(r, c)) {
                q.toggleLedge(r, c);
            }
            for (int block = 0; block < 3; block++) {
                answers.append(Check.answerOf(() -> q.topBlock(r, c))).append(Check.answerOf(() -> q.lift(0, r, c)));
            }
        }
        return answers.toString();
    }

    /** Shows where the winches stand. */
    private static String rows(TerraceQuarry q) {
        StringBuilder rows = new StringBuilder();
        for (int row = 0; row < 5; row++) {
            rows.append(Check.line(q, row)).append('\n');
        }
        return rows.toString();
    }

    /** Shows how far the winches reach, and how much they lift. */
    private static String reached(TerraceQuarry q) {
        StringBuilder answers = new StringBuilder();
        for (int cell = 0; cell < 30; cell++) {
            int r = cell / 6;
            int c = cell % 6;
            q.setStone(r, c, (r + c) % 4);
            answers.append(Check.answerOf(() -> q.cut(r, c)));
        }
        for (int winch = 0; winch < 3; winch++) {
            int w = winch;
            answers.append(' ').append(Check.answerOf(() -> q.liftableCells(w)));
        }
        return answers.toString();
    }

    private static String filledUp(TerraceQuarry q) {
        StringBuilder answers = new StringBuilder();
        for (int i = 0; i < 61; i++) {
            answers.append(Check.answerOf(() -> q.append('x'))).append(' ');
        }
        return answers.toString();
    }
}
