import java.util.ArrayDeque;
import java.util.Deque;

/** The edges of undo, save and restore (promises 44 to 46), and the last of the 512 calls of an object. */
public final class UndoEdgesTest {
    public static void main(String[] args) {
        promise44EachChangingMethod();
        promise44EachNumberOfCalls();
        promise44EachOrderOfCallsAndUndos();
        promise44NothingDifferent();
        promise44OtherCallsDoNotCount();
        queriesChangeNothing();
        promise45SaveIsNoChange();
        promise45TheLastSaveCounts();
        promise46StaysSaved();
        promise46NoUndoAfterwards();
        promise46WhatIsSavedIsACopy();
        whatStoodThereComesBack();
        textsAreNoState();
        callsUpToTheLastOne();
        totalsUpToTheLastCall();
        Check.end("UndoEdgesTest");
    }

    /** The busy state without a call that can be undone. */
    private static void settled(TerraceQuarry q) {
        Twins.busyWithoutText(q);
        q.save();
        q.restore();
    }

    /** With an empty history the call and its undo leave no trace; with a full one the oldest call is forgotten. */
    private static void undone(Twins.Act call) {
        Twins.sameState(UndoEdgesTest::settled, q -> {
            settled(q);
            Check.due(true, () -> !(Check.answerOf(() -> call.on(q)) instanceof Class));
            Check.due(0, q::undo);
        });
        TerraceQuarry q = Twins.make(Twins::busyWithoutText);
        call.on(q);
        Check.due(7, q::undo);
        String want = Check.stateOf(Twins.make(Twins::busyWithoutText));
        Check.due(want, () -> Check.stateOf(q));
    }

    private static void promise44EachChangingMethod() {
        undone(q -> q.setStone(0, 4, 2));
        undone(q -> q.cut(4, 5));
        undone(q -> q.cut(0, 0));
        undone(q -> q.fill(3, 3));
        undone(q -> q.toggleLedge(3, 3));
        undone(q -> q.toggleLedge(0, 5));
        undone(q -> q.setStepLimit(2));
        undone(q -> q.addWinch(0, 0, 2, 1));
        undone(q -> q.lift(0, 4, 5));
        undone(q -> q.crush(0, 1));
        undone(q -> Check.run(q, "lift 0 45"));
        undone(q -> Check.run(q, "lift 0 45;crush 3 1;fill 45;limit 2;ledge 05;winch 00 2 1"));
    }

    private static void promise44EachNumberOfCalls() {
        for (int calls = 0; calls <= 26; calls++) {
            TerraceQuarry q = new TerraceQuarry();
            for (int cell = 0; cell < calls; cell++) {
                q.setStone(cell / 6, cell % 6, 3);
            }
            int kept = Math.min(calls, 8);
            for (int left = kept - 1; left >= 0; left--) {
                int l = left;
                Check.due(l, q::undo);
            }
            Check.due(Check.STATE, q::undo);
            Check.due(Check.STATE, q::undo);
            for (int cell = 0; cell < 30; cell++) {
                int c = cell;
                Check.due(c < calls - kept ? 3 : 0, () -> q.stone(c / 6, c % 6));
            }
        }
    }

    /** Some calls, some undos, some calls again, and then all undos: each takes back its own call alone. */
    private static void promise44EachOrderOfCallsAndUndos() {
        for (int first = 0; first <= 10; first++) {
            for (int undos = 0; undos <= 8; undos++) {
                for (int more = 0; more <= 10; more++) {
                    undoInOrder(first, undos, more);
                }
            }
        }
    }

    private static void undoInOrder(int first, int undos, int more) {
        TerraceQuarry q = new TerraceQuarry();
        Deque<Integer> past = new ArrayDeque<>();
        boolean[] ledges = new boolean[30];
        for (int i = 0; i < first; i++) {
            makeLedge(q, past, ledges, i);
        }
        for (int i = 0; i < undos; i++) {
            undoLedge(q, past, ledges);
        }
        for (int i = 0; i < more; i++) {
            makeLedge(q, past, ledges, 10 + i);
        }
        for (int i = 0; i < 9; i++) {
            undoLedge(q, past, ledges);
        }
        for (int cell = 0; cell < 30; cell++) {
            int c = cell;
            Check.due(ledges[c], () -> q.isLedge(c / 6, c % 6));
        }
    }

    /** Each call makes a ledge of a cell of its own. */
    private static void makeLedge(TerraceQuarry q, Deque<Integer> past, boolean[] ledges, int cell) {
        q.toggleLedge(cell / 6, cell % 6);
        ledges[cell] = true;
        past.addFirst(cell);
        if (past.size() > 8) {
            past.removeLast();
        }
    }

    private static void undoLedge(TerraceQuarry q, Deque<Integer> past, boolean[] ledges) {
        if (past.isEmpty()) {
            Check.due(Check.STATE, q::undo);
        } else {
            int cell = past.removeFirst();
            ledges[cell] = false;
            Check.due(past.size(), q::undo);
            Check.due(false, () -> q.isLedge(cell / 6, cell % 6));
            if (!past.isEmpty()) {
                Check.due(true, () -> q.isLedge(past.getFirst() / 6, past.getFirst() % 6));
            }
        }
    }

    private static void promise44NothingDifferent() {
        TerraceQuarry q = new TerraceQuarry();
        q.cut(4, 5);
        Check.due(0, () -> q.setStone(0, 0, 0));
        Check.due(1, () -> q.setStepLimit(1));
        Check.due(2, () -> Check.run(q, "ledge 00;ledge 00"));
        Check.due(1, () -> Check.run(q, "stone 000"));
        for (int left = 4; left >= 1; left--) {
            int l = left;
            Check.due(l, q::undo);
            Check.due(5, () -> q.height(4, 5));
        }
        Check.due(0, q::undo);
        Check.due(6, () -> q.height(4, 5));
        // Eight of them push an earlier call out of the history.
        q.cut(4, 5);
        for (int i = 0; i < 8; i++) {
            q.setStone(0, 0, 0);
        }
        for (int i = 0; i < 8; i++) {
            q.undo();
        }
        Check.due(Check.STATE, q::undo);
        Check.due(5, () -> q.height(4, 5));
    }

    /** Saving, texts, rows and refused calls come between, and only the changing calls are undone. */
    private static void promise44OtherCallsDoNotCount() {
        TerraceQuarry q = new TerraceQuarry();
        q.cut(0, 0);
        q.save();
        q.writeRow(0);
        Check.type(q, "cut 11");
        Check.due(0, q::undo);
        Check.due(6, () -> q.height(0, 0));
        Check.due(Check.STATE, q::undo);
        Check.due(1, q::run);
        Check.answerOf(() -> q.cut(1, 1));
        Check.answerOf(() -> Check.run(q, "cut 22;cut 22"));
        Check.answerOf(() -> Check.run(q, "cut 2"));
        Check.due(0, q::undo);
        Check.due(6, () -> q.height(1, 1));
        Check.due(Check.STATE, q::undo);
    }

    private static void queriesChangeNothing() {
        Twins.same(Twins::busy, q -> {
            Twins.busy(q);
            askCells(q);
            askTheRest(q);
        });
    }

    private static void askCells(TerraceQuarry q) {
        int[][] cells = {{0, 4}, {0, 5}, {4, 5}};
        for (int[] cell : cells) {
            int r = cell[0];
            int c = cell[1];
            q.height(r, c);
            q.stone(r, c);
            q.isLedge(r, c);
            q.looseBlocks(r, c);
            q.steepestStep(r, c);
            q.canCut(r, c);
            q.cutsToLower(r, c, 0);
            q.cutsToLowerBySpreading(r, c, 0);
            q.seamSize(r, c);
            q.seamVolume(r, c);
        }
        q.topBlock(4, 5);
        q.bestWinch(4, 5);
        q.footpath(0, 4, 0, 0);
    }

    private static void askTheRest(TerraceQuarry q) {
        q.cuttableCells();
        q.cellsAt(6);
        q.seamCount();
        q.seamCountByMerging();
        q.winchCount();
        q.liftableCells(0);
        q.inYard(0);
        q.yardWeight();
        q.rubble();
        q.stepLimit();
        q.cutTotal();
        q.workTotal();
        q.meanHeight();
        q.liftedShare();
        q.isConsistent();
        q.errorPosition();
        q.failedCommand();
        q.outputAt(0);
    }

    private static void promise45SaveIsNoChange() {
        // The second save is the same as the first one, so that nothing at all tells them apart.
        Twins.same(q -> {
            Twins.busy(q);
            q.save();
        }, q -> {
            Twins.busy(q);
            q.save();
            q.save();
        });
        TerraceQuarry q = Twins.make(Twins::busy);
        q.save();
        for (int left = 7; left >= 0; left--) {
            int l = left;
            Check.due(l, q::undo);
            q.save();
        }
        Check.due(Check.STATE, q::undo);
    }

    private static void promise45TheLastSaveCounts() {
        TerraceQuarry q = new TerraceQuarry();
        q.save();
        for (int column = 0; column < 6; column++) {
            q.setStone(0, column, 1);
            q.save();
        }
        q.setStone(0, 0, 2);
        q.restore();
        Check.due("6b 6b 6b 6b 6b 6b", () -> Check.line(q, 0));
        q.setStone(0, 0, 2);
        q.restore();
        Check.due("6b 6b 6b 6b 6b 6b", () -> Check.line(q, 0));
    }

    private static void promise46StaysSaved() {
        TerraceQuarry q = new TerraceQuarry();
        q.cut(2, 2);
        q.save();
        for (int round = 0; round < 10; round++) {
            q.setStepLimit(4);
            q.fill(0, 0);
            q.cut(2, 2);
            q.addWinch(2, 2, 2, 1);
            q.lift(0, 2, 2);
            q.crush(0, 1);
            q.restore();
            Check.due(1, q::stepLimit);
            Check.due(5, () -> q.height(2, 2));
            Check.due(6, () -> q.height(0, 0));
            Check.due(1, () -> q.looseBlocks(2, 2));
            Check.due(0, q::winchCount);
            Check.due(0, () -> q.inYard(0));
            Check.due(5, q::rubble);
            Check.due(1, q::cutTotal);
            Check.due(0L, q::workTotal);
        }
        q.restore();
        q.restore();
        Check.due(5, () -> q.height(2, 2));
    }

    private static void promise46NoUndoAfterwards() {
        for (int calls = 0; calls <= 10; calls++) {
            TerraceQuarry q = new TerraceQuarry();
            q.save();
            for (int i = 0; i < calls; i++) {
                q.toggleLedge(0, 0);
            }
            q.restore();
            Check.due(false, () -> q.isLedge(0, 0));
            Check.due(Check.STATE, q::undo);
            q.toggleLedge(1, 1);
            q.toggleLedge(1, 2);
            Check.due(1, q::undo);
            Check.due(0, q::undo);
            Check.due(Check.STATE, q::undo);
            Check.due(false, () -> q.isLedge(1, 1));
        }
        // A restore without a saved state is refused, and does not take the calls from the history.
        TerraceQuarry q = new TerraceQuarry();
        q.toggleLedge(0, 0);
        Check.answerOf(() -> {
            q.restore();
            return "restored";
        });
        Check.due(0, q::undo);
        Check.due(false, () -> q.isLedge(0, 0));
    }

    /** Neither changes, nor undos, nor a failing program reach what is saved. */
    private static void promise46WhatIsSavedIsACopy() {
        Twins.Steps saved = q -> {
            Twins.busyWithoutText(q);
            q.save();
            q.restore();
        };
        Twins.sameState(saved, q -> {
            saved.on(q);
            q.setStone(4, 5, 0);
            q.cut(4, 5);
            q.toggleLedge(0, 5);
            q.setStepLimit(3);
            q.addWinch(0, 0, 2, 1);
            q.lift(0, 4, 5);
            q.undo();
            Check.answerOf(() -> Check.run(q, "ledge 11;cut 99"));
            q.crush(0, 1);
            q.fill(1, 1);
            Check.run(q, "cut 33;ledge 33");
            q.undo();
            q.restore();
        });
    }

    /** Another block or another winch comes to the place of one that undo, restore or a failing program brings back. */
    private static void whatStoodThereComesBack() {
        Twins.Steps oneBlock = q -> {
            q.setStepLimit(4);
            q.addWinch(2, 2, 9, 6);
            q.setStone(1, 1, 3);
            q.cut(1, 1);
            q.save();
        };
        Twins.Act otherBlock = q -> q.lift(0, 1, 1) + q.setStone(1, 1, 2) + q.cut(1, 1);
        TerraceQuarry undone = Twins.make(oneBlock);
        otherBlock.on(undone);
        Check.due(2, () -> undone.topBlock(1, 1));
        for (int left = 6; left >= 4; left--) {
            int l = left;
            Check.due(l, undone::undo);
        }
        Check.due(3, () -> undone.topBlock(1, 1));
        TerraceQuarry restored = Twins.make(oneBlock);
        otherBlock.on(restored);
        restored.restore();
        Check.due(3, () -> restored.topBlock(1, 1));
        TerraceQuarry failed = Twins.make(oneBlock);
        Check.due(Check.UNSUPPORTED, () -> Check.run(failed, "lift 0 11;stone 112;cut 11;cut 99"));
        Check.due(3, () -> failed.topBlock(1, 1));
        otherWinch();
    }

    private static void otherWinch() {
        TerraceQuarry q = new TerraceQuarry();
        q.setStone(1, 1, 3);
        q.cut(1, 1);
        q.addWinch(4, 4, 5, 6);
        q.save();
        q.undo();
        q.addWinch(0, 0, 4, 1);
        Check.due("6a^ 6a 6a 6a 6a 6a", () -> Check.line(q, 0));
        Check.due(Check.MISSING, () -> q.bestWinch(1, 1));
        q.restore();
        Check.due("6a 6a 6a 6a 6a 6a", () -> Check.line(q, 0));
        Check.due("6a 6a 6a 6a 6a^ 6a", () -> Check.line(q, 4));
        Check.due(0, () -> q.bestWinch(1, 1));
        Check.due(25, () -> q.lift(0, 1, 1));
    }

    private static void textsAreNoState() {
        TerraceQuarry q = new TerraceQuarry();
        q.save();
        Check.answerOf(() -> Check.run(q, "cut 0x"));
        Check.answerOf(() -> Check.run(q, "cut 00;cut 00"));
        q.cut(0, 0);
        q.writeRow(0);
        Check.type(q, "cut 2");
        q.undo();
        texts(q, 6, 5);
        q.cut(0, 0);
        q.restore();
        texts(q, 7, 5);
        q.save();
        texts(q, 8, 5);
        Check.due(Check.ARGUMENT, q::run);
        // The three characters that the looks put in stand in the text: "cut 2222".
        Check.due(6, q::errorPosition);
        q.restore();
        Check.due(6, q::errorPosition);
    }

    private static void texts(TerraceQuarry q, int length, int position) {
        Check.due("5a. 6a 6a 6a 6a 6a", () -> Twins.written(q));
        Check.due(position, q::errorPosition);
        Check.due(1, q::failedCommand);
        Check.due(length, () -> q.append('2'));
    }

    private static Object lastOf(Twins.Act call) {
        TerraceQuarry q = new TerraceQuarry();
        for (int i = 0; i < 511; i++) {
            Check.answerOf(() -> call.on(q));
        }
        return Check.answerOf(() -> call.on(q));
    }

    /** The answers of the 512th call, after as many calls of the same method. */
    private static void callsUpToTheLastOne() {
        Check.due(false, () -> lastOf(q -> q.toggleLedge(0, 0)));
        Check.due(3, () -> lastOf(q -> q.setStone(0, 0, 3)));
        Check.due(Check.STATE, () -> lastOf(q -> q.append(';')));
        Check.due(Check.ARGUMENT, () -> lastOf(TerraceQuarry::run));
        Check.due(true, () -> lastOf(TerraceQuarry::isConsistent));
        Check.due(17, () -> lastOf(q -> q.writeRow(0)));
        Check.due(55, () -> lastOf(q -> q.cutsToLowerBySpreading(0, 0, 0)));
        TerraceQuarry q = new TerraceQuarry();
        for (int i = 0; i < 503; i++) {
            q.toggleLedge(0, 0);
        }
        for (int left = 7; left >= 0; left--) {
            int l = left;
            Check.due(l, q::undo);
        }
        Check.due(true, () -> q.isLedge(0, 0));
    }

    private static void totalsUpToTheLastCall() {
        TerraceQuarry q = new TerraceQuarry();
        q.addWinch(0, 0, 9, 6);
        q.setStone(4, 0, 3);
        for (int round = 0; round < 126; round++) {
            q.cut(4, 0);
            q.lift(0, 4, 0);
            q.crush(3, 1);
            q.fill(4, 0);
        }
        Check.due(126, q::cutTotal);
        Check.due(126 * 25L, q::workTotal);
        Check.due(5 + 126, q::rubble);
        Check.due(1.0f, q::liftedShare);
        Check.due(0, q::yardWeight);
        Check.due(6.0, q::meanHeight);
    }
}
