/** Promises 44 to 46: undo, save and restore. */
public final class UndoTest {
    public static void main(String[] args) {
        promise44UndoEachCall();
        promise44AtMostEight();
        promise44AfterUndo();
        promise44NothingDifferent();
        promise44FailedCallsAreNotUndone();
        promise45Save();
        promise46Restore();
        promise46RestoreOtherWinches();
        promises44To46LeaveTheTexts();
        promises45And46WithUndo();
        Check.end("UndoTest");
    }

    private static TerraceQuarry busyQuarry() {
        TerraceQuarry q = new TerraceQuarry();
        q.setStepLimit(4);
        q.addWinch(2, 2, 9, 6);
        q.setStone(0, 0, 3);
        q.cut(0, 0);
        q.setStone(0, 0, 1);
        q.cut(0, 0);
        q.lift(0, 0, 0);
        q.cut(4, 4);
        return q;
    }

    /** Makes the calls on new objects, undoes the last one, and compares the state with that before it. */
    private static void undone(Twins.Act... calls) {
        for (int last = 0; last < calls.length; last++) {
            TerraceQuarry before = busyQuarry();
            TerraceQuarry q = busyQuarry();
            for (int i = 0; i <= last; i++) {
                calls[i].on(q);
                if (i < last) {
                    calls[i].on(before);
                }
            }
            Check.due(7, q::undo);
            Check.due(Check.stateOf(before), () -> Check.stateOf(q));
            Check.due(true, q::isConsistent);
        }
    }

    private static void promise44UndoEachCall() {
        undone(q -> q.setStone(1, 1, 2), q -> q.cut(0, 0), q -> q.lift(0, 0, 0), q -> q.crush(1, 1),
                q -> q.fill(1, 1), q -> q.toggleLedge(0, 0), q -> q.setStepLimit(3), q -> q.addWinch(0, 0, 4, 2),
                q -> q.toggleLedge(0, 0), q -> q.lift(0, 0, 0),
                q -> Check.run(q, "winch 44 4 4;lift 2 44;crush 0 1;stone 442;limit 4;cut 44"));
    }

    private static void promise44AtMostEight() {
        TerraceQuarry q = new TerraceQuarry();
        Check.due(Check.STATE, q::undo);
        for (int column = 0; column < 5; column++) {
            q.cut(0, column);
            q.cut(2, column);
        }
        for (int left = 7; left >= 0; left--) {
            int want = left;
            Check.due(want, q::undo);
        }
        Check.due(Check.STATE, q::undo);
        Check.due("5a. 6a 6a 6a 6a 6a", () -> Check.line(q, 0));
        Check.due("5a. 6a 6a 6a 6a 6a", () -> Check.line(q, 2));
        Check.due(2, q::cutTotal);
    }

    private static void promise44AfterUndo() {
        TerraceQuarry q = new TerraceQuarry();
        for (int column = 0; column < 6; column++) {
            q.cut(0, column);
        }
        Check.due(5, q::undo);
        Check.due(4, q::undo);
        q.cut(3, 3);
        Check.due(4, q::undo);
        Check.due("5a. 5a. 5a. 5a. 6a 6a", () -> Check.line(q, 0));
        Check.due(6, () -> q.height(3, 3));
        Check.due(3, q::undo);
        Check.due("5a. 5a. 5a. 6a 6a 6a", () -> Check.line(q, 0));
        for (int column = 0; column < 6; column++) {
            q.setStone(4, column, 1);
        }
        Check.due(7, q::undo);
        for (int left = 6; left >= 0; left--) {
            int want = left;
            Check.due(want, q::undo);
        }
        Check.due("5a. 6a 6a 6a 6a 6a", () -> Check.line(q, 0));
        Check.due(Check.STATE, q::undo);
    }

    private static void promise44NothingDifferent() {
        TerraceQuarry q = new TerraceQuarry();
        q.cut(0, 0);
        q.setStone(0, 0, 0);
        q.setStepLimit(1);
        Check.run(q, "ledge 00;ledge 00");
        Check.due(3, q::undo);
        Check.due(2, q::undo);
        Check.due(1, q::undo);
        Check.due(5, () -> q.height(0, 0));
        Check.due(0, q::undo);
        Check.due(6, () -> q.height(0, 0));
        Check.due(0, q::cutTotal);
        Check.due(Check.ARITHMETIC, q::liftedShare);
    }

    private static void promise44FailedCallsAreNotUndone() {
        TerraceQuarry q = new TerraceQuarry();
        q.cut(0, 0);
        Check.answerOf(() -> q.setStone(0, 0, 4));
        Check.answerOf(() -> q.cut(0, 0));
        Check.answerOf(() -> q.fill(0, 0));
        Check.answerOf(() -> q.toggleLedge(5, 5));
        Check.answerOf(() -> q.setStepLimit(5));
        Check.answerOf(() -> q.addWinch(0, 0, 1, 1));
        Check.answerOf(() -> q.lift(0, 0, 0));
        Check.answerOf(() -> q.crush(0, 1));
        Check.answerOf(() -> Check.run(q, "cut 11;cut 11"));
        Check.answerOf(() -> Check.run(q, "cut 11;cut"));
        q.height(0, 0);
        q.canCut(0, 0);
        q.writeRow(0);
        q.append('c');
        q.save();
        Check.due(0, q::undo);
        Check.due(6, () -> q.height(0, 0));
        Check.due(Check.STATE, q::undo);
    }

    private static Object restored(TerraceQuarry q) {
        q.restore();
        return Check.stateOf(q);
    }

    private static void savedTwice(TerraceQuarry q) {
        q.save();
        q.cut(1, 1);
        q.addWinch(1, 1, 4, 4);
        q.restore();
        q.toggleLedge(2, 2);
        q.crush(1, 1);
        q.setStepLimit(3);
        q.save();
    }

    private static void promise45Save() {
        TerraceQuarry once = busyQuarry();
        once.save();
        String first = Check.stateOf(once);
        once.cut(1, 1);
        once.addWinch(1, 1, 4, 4);
        Check.due(first, () -> restored(once));
        TerraceQuarry twice = busyQuarry();
        savedTwice(twice);
        String second = Check.stateOf(twice);
        twice.fill(3, 3);
        twice.lift(0, 0, 0);
        Check.due(second, () -> restored(twice));
        Check.due(false, () -> first.equals(second));
        Check.due(true, twice::isConsistent);
    }

    private static void promise46Restore() {
        TerraceQuarry q = new TerraceQuarry();
        Check.due(Check.STATE, () -> restored(q));
        String empty = Check.stateOf(new TerraceQuarry());
        q.save();
        q.cut(0, 0);
        q.cut(2, 2);
        Check.due(empty, () -> restored(q));
        Check.due(Check.STATE, q::undo);
        q.cut(0, 0);
        q.restore();
        q.restore();
        Check.due(Check.STATE, q::undo);
        q.cut(3, 3);
        q.cut(3, 1);
        Check.due(1, q::undo);
        Check.due(0, q::undo);
        Check.due(empty, () -> Check.stateOf(q));
        Check.due(Check.STATE, q::undo);
    }

    /** Undo takes the saved winch away, so that another one can stand in its stead. */
    private static void promise46RestoreOtherWinches() {
        TerraceQuarry q = new TerraceQuarry();
        q.cut(0, 3);
        q.setStone(2, 2, 3);
        q.cut(2, 2);
        q.addWinch(2, 2, 5, 4);
        q.save();
        String saved = Check.stateOf(q);
        q.undo();
        q.addWinch(0, 0, 2, 2);
        Check.due(0, () -> q.liftableCells(0));
        Check.due("6a^ 6a 6a 5a. 6a 6a", () -> Check.line(q, 0));
        Check.due(saved, () -> restored(q));
        Check.due("6a 6a 6a 5a. 6a 6a", () -> Check.line(q, 0));
        Check.due("6a 6a 5d^. 6a 6a 6a", () -> Check.line(q, 2));
        Check.due(2, () -> q.liftableCells(0));
        Check.due(25, () -> q.lift(0, 2, 2));
        Check.due(10, () -> q.lift(0, 0, 3));
    }

    private static void promises44To46LeaveTheTexts() {
        TerraceQuarry q = new TerraceQuarry();
        q.cut(0, 0);
        q.save();
        q.writeRow(0);
        Check.type(q, "cut");
        q.undo();
        Check.due('5', () -> q.outputAt(0));
        Check.due(4, () -> q.append(' '));
        q.restore();
        Check.due('5', () -> q.outputAt(0));
        Check.due(18, () -> q.writeRow(0));
        Check.due(5, () -> q.append('1'));
        Check.due(6, () -> q.append('1'));
        Check.due(1, q::run);
        Check.due(5, () -> q.height(1, 1));
        Check.due(0, q::undo);
        Check.due(1, () -> q.append('c'));
    }

    private static void promises45And46WithUndo() {
        TerraceQuarry q = new TerraceQuarry();
        q.cut(0, 0);
        q.cut(2, 2);
        q.save();
        String saved = Check.stateOf(q);
        Check.due(1, q::undo);
        Check.due(0, q::undo);
        Check.due(6, () -> q.height(0, 0));
        Check.due(saved, () -> restored(q));
        Check.due(Check.STATE, q::undo);
        for (int column = 0; column < 6; column++) {
            q.cut(4, column);
        }
        q.save();
        Check.due(5, q::undo);
    }
}
