/**
 * Every refused call: which exception it throws, which one comes first if several conditions apply, and that no later
 * call shows that it was made.
 */
public final class RefusedTest {
    private static final int MIN = Integer.MIN_VALUE;
    private static final int MAX = Integer.MAX_VALUE;
    private static final Twins.Steps BUSY = Twins::busy;

    public static void main(String[] args) {
        promise02SetStone();
        promise03Cut();
        promise03CutOrder();
        promise04Fill();
        promise04FillOrder();
        promises05And06LedgeAndLimit();
        promise07AddWinch();
        promise07AddWinchOrder();
        promise08Lift();
        promise08LiftOrder();
        promise09Crush();
        promises10To18Cells();
        promises19And20CutsToLower();
        promises21To25Seams();
        promise25Footpath();
        promises27To36Winches();
        promise28BestWinch();
        promise38Append();
        promise39RunOfNoProgram();
        promise39RunOfFailingCommands();
        promises40To43Texts();
        promises44And46Undo();
        Check.end("RefusedTest");
    }

    private static void promise02SetStone() {
        Twins.refusedOutside((q, r, c) -> q.setStone(r, c, 3));
        Twins.refusedOutside((q, r, c) -> q.setStone(r, c, 4));
        Twins.refused(Check.ARGUMENT, BUSY, q -> q.setStone(0, 0, -1), q -> q.setStone(0, 0, 4),
                q -> q.setStone(4, 5, -1), q -> q.setStone(0, 5, 4), q -> q.setStone(0, 0, MIN),
                q -> q.setStone(0, 0, MAX));
    }

    private static void atFour(TerraceQuarry q, int row, int column) {
        Twins.bring(q, row, column, 4);
    }

    /** The cell 0, 0 has the height 0 and no block, and its neighbours have the height 4. */
    private static void corner(TerraceQuarry q) {
        atFour(q, 0, 1);
        atFour(q, 1, 0);
        Twins.bring(q, 0, 0, 0);
    }

    private static void cutThrice(TerraceQuarry q) {
        q.cut(1, 1);
        q.cut(1, 1);
        q.cut(1, 1);
    }

    private static void promise03Cut() {
        Twins.refusedOutside((q, r, c) -> q.cut(r, c));
        Twins.refused(Check.STATE, BUSY, q -> q.cut(0, 5));
        Twins.refused(Check.STATE, Twins.busyAnd(q -> q.toggleLedge(1, 1)), q -> q.cut(1, 1));
        Twins.refused(Check.STATE, Twins.busyAnd(RefusedTest::corner), q -> q.cut(0, 0));
        Twins.refused(Check.STATE, Twins.busyAnd(RefusedTest::cutThrice), q -> q.cut(1, 1));
        Twins.refused(Check.UNSUPPORTED, q -> q.cut(1, 1), q -> q.cut(1, 1));
        Twins.refused(Check.UNSUPPORTED, Twins.busyAnd(q -> Twins.bring(q, 1, 1, 2)), q -> q.cut(1, 1));
    }

    private static void promise03CutOrder() {
        Twins.refused(Check.STATE, q -> {
            q.cut(1, 1);
            q.toggleLedge(1, 1);
        }, q -> q.cut(1, 1));
        // Three blocks, and the fourth cut would make a step of 4.
        Twins.refused(Check.STATE, Twins.then(q -> q.setStepLimit(3), RefusedTest::cutThrice), q -> q.cut(1, 1));
        // The height 0, and one less would make a step of 5.
        Twins.refused(Check.STATE, Twins.busyAnd(RefusedTest::corner), q -> q.cut(0, 0));
    }

    private static void promise04Fill() {
        Twins.refusedOutside((q, r, c) -> q.fill(r, c));
        Twins.refused(Check.STATE, BUSY, q -> q.fill(0, 5), q -> q.fill(4, 5));
        Twins.refused(Check.STATE, Twins.busyAnd(q -> Twins.bring(q, 2, 2, 9)), q -> q.fill(2, 2));
        Twins.refused(Check.STATE, Twins.busyAnd(q -> q.cut(1, 1)), q -> q.fill(1, 1));
        Twins.refused(Check.STATE, Twins.busyAnd(RefusedTest::cutThrice), q -> q.fill(1, 1));
        Twins.refused(Check.STATE, Twins.busyAnd(RefusedTest::useRubble), q -> q.fill(1, 1));
        Twins.refused(Check.UNSUPPORTED, q -> q.fill(1, 1), q -> q.fill(1, 1));
        Twins.refused(Check.UNSUPPORTED, Twins.busyAnd(q -> {
            atFour(q, 1, 2);
            Twins.bring(q, 1, 1, 8);
        }), q -> q.fill(1, 1));
    }

    private static void useRubble(TerraceQuarry q) {
        for (int column = 0; column < 6 && q.rubble() > 0; column++) {
            q.fill(3, column);
        }
    }

    private static void promise04FillOrder() {
        Twins.refused(Check.STATE, q -> {
            q.fill(1, 1);
            q.toggleLedge(1, 1);
        }, q -> q.fill(1, 1));
        // The height 9, and one more would make a step of 4.
        Twins.refused(Check.STATE, q -> {
            q.setStepLimit(3);
            Twins.bring(q, 1, 1, 9);
        }, q -> q.fill(1, 1));
        // A loose block, and one more would make a step of 2.
        Twins.refused(Check.STATE, q -> Check.run(q, "cut 11;cut 02;cut 22;cut 13;cut 12;cut 12"), q -> q.fill(1, 1));
        // No rubble, and one more would make a step of 2.
        Twins.refused(Check.STATE, RefusedTest::useRubble, q -> q.fill(3, 0));
    }

    private static void promises05And06LedgeAndLimit() {
        Twins.refusedOutside((q, r, c) -> q.toggleLedge(r, c));
        Twins.refused(Check.ARGUMENT, BUSY, q -> q.setStepLimit(0), q -> q.setStepLimit(5), q -> q.setStepLimit(-1),
                q -> q.setStepLimit(MIN), q -> q.setStepLimit(MAX));
        Twins.refused(Check.ARGUMENT, Twins.NEW, q -> q.setStepLimit(0), q -> q.setStepLimit(5));
        Twins.refused(Check.UNSUPPORTED, BUSY, q -> q.setStepLimit(1));
        Twins.refused(Check.UNSUPPORTED, Twins.busyAnd(q -> q.cut(4, 5)), q -> q.setStepLimit(1),
                q -> q.setStepLimit(2));
        Twins.refused(Check.UNSUPPORTED, Twins.busyAnd(q -> Twins.bring(q, 1, 1, 2)), q -> q.setStepLimit(1),
                q -> q.setStepLimit(2), q -> q.setStepLimit(3));
    }

    private static void promise07AddWinch() {
        Twins.refusedOutside((q, r, c) -> q.addWinch(r, c, 2, 1));
        Twins.refused(Check.ARGUMENT, BUSY, q -> q.addWinch(0, 0, 1, 1), q -> q.addWinch(0, 0, 10, 1),
                q -> q.addWinch(0, 0, 2, 0), q -> q.addWinch(0, 0, 2, 7), q -> q.addWinch(0, 0, MIN, 6),
                q -> q.addWinch(0, 0, MAX, 6), q -> q.addWinch(0, 0, 9, MIN), q -> q.addWinch(0, 0, 9, MAX),
                q -> q.addWinch(0, 0, 0, 6), q -> q.addWinch(0, 0, -1, 6), q -> q.addWinch(0, 0, 9, -1));
        Twins.refused(Check.STATE, BUSY, q -> q.addWinch(2, 2, 2, 1), q -> q.addWinch(2, 2, 9, 6));
        Twins.refused(Check.STATE, Twins.busyAnd(RefusedTest::allWinches), q -> q.addWinch(3, 3, 9, 6),
                q -> q.addWinch(2, 2, 2, 1), q -> q.addWinch(0, 0, 2, 1), q -> q.addWinch(4, 5, 2, 1));
    }

    private static void allWinches(TerraceQuarry q) {
        q.addWinch(0, 0, 4, 2);
        q.addWinch(4, 5, 3, 3);
    }

    private static void promise07AddWinchOrder() {
        Twins.refusedOutside((q, r, c) -> q.addWinch(r, c, 1, 7));
        Twins.refused(Check.ARGUMENT, Twins.busyAnd(RefusedTest::allWinches), q -> q.addWinch(2, 2, 1, 1),
                q -> q.addWinch(3, 3, 10, 1), q -> q.addWinch(3, 3, 9, 0), q -> q.addWinch(2, 2, 9, 7));
        Twins.refused(Check.INDEX, Twins.busyAnd(RefusedTest::allWinches), q -> q.addWinch(5, 0, 9, 6),
                q -> q.addWinch(0, 6, 1, 7));
    }

    /** The cell 0, 0 has a heavy block, two cells far off have light ones; the winch 1 stands at 4, 5. */
    private static void blocks(TerraceQuarry q) {
        q.setStone(0, 0, 3);
        q.cut(0, 0);
        q.cut(2, 1);
        q.cut(1, 1);
        q.addWinch(4, 5, 4, 6);
        q.addWinch(0, 1, 4, 1);
    }

    private static void promise08Lift() {
        Twins.refused(Check.INDEX, Twins.then(BUSY, RefusedTest::blocks), q -> q.lift(-1, 0, 0), q -> q.lift(3, 0, 0),
                q -> q.lift(MIN, 0, 0), q -> q.lift(MAX, 0, 0));
        Twins.refused(Check.INDEX, BUSY, q -> q.lift(1, 4, 5));
        Twins.refused(Check.INDEX, q -> q.cut(0, 0), q -> q.lift(0, 0, 0), q -> q.lift(0, 1, 1));
        Twins.refusedOutside((q, r, c) -> q.lift(0, r, c));
        Twins.refused(Check.MISSING, BUSY, q -> q.lift(0, 1, 1), q -> q.lift(0, 0, 4));
        Twins.refused(Check.MISSING, Twins.busyAnd(q -> q.lift(0, 4, 5)), q -> q.lift(0, 4, 5));
        Twins.refused(Check.STATE, Twins.busyAnd(q -> q.toggleLedge(4, 5)), q -> q.lift(0, 4, 5));
        // One too far, one too heavy, and both.
        Twins.refused(Check.UNSUPPORTED, Twins.busyAnd(RefusedTest::blocks), q -> q.lift(1, 1, 1), q -> q.lift(2, 0, 0),
                q -> q.lift(1, 0, 0), q -> q.lift(2, 2, 1));
    }

    private static void promise08LiftOrder() {
        Twins.refusedOutside((q, r, c) -> q.lift(1, r, c));
        // The ledge 0, 5 has no block; neither has 0, 2, which the winch 1 does not reach.
        Twins.refused(Check.MISSING, Twins.busyAnd(RefusedTest::blocks), q -> q.lift(0, 0, 5), q -> q.lift(1, 0, 2),
                q -> q.lift(2, 0, 5));
        Twins.refused(Check.STATE, Twins.then(Twins.busyAnd(RefusedTest::blocks), q -> {
            q.toggleLedge(0, 0);
            q.toggleLedge(2, 1);
        }), q -> q.lift(1, 0, 0), q -> q.lift(2, 0, 0), q -> q.lift(2, 2, 1));
    }

    private static void promise09Crush() {
        Twins.refused(Check.ARGUMENT, BUSY, q -> q.crush(-1, 1), q -> q.crush(4, 1), q -> q.crush(MIN, 1),
                q -> q.crush(MAX, 1), q -> q.crush(0, 0), q -> q.crush(0, 21), q -> q.crush(0, -1),
                q -> q.crush(0, MIN), q -> q.crush(0, MAX), q -> q.crush(4, 0), q -> q.crush(1, 0),
                q -> q.crush(1, 21));
        Twins.refused(Check.STATE, BUSY, q -> q.crush(0, 2), q -> q.crush(0, 20), q -> q.crush(1, 1),
                q -> q.crush(2, 1), q -> q.crush(3, 1), q -> q.crush(3, 20));
        Twins.refused(Check.STATE, Twins.NEW, q -> q.crush(0, 1), q -> q.crush(3, 20));
        Twins.refused(Check.ARGUMENT, Twins.NEW, q -> q.crush(0, 0), q -> q.crush(0, 21));
        // 21 of them in the yard are still too many for one call.
        Twins.refused(Check.ARGUMENT, q -> liftMany(q, 21), q -> q.crush(0, 21), q -> q.crush(0, 0));
        Twins.refused(Check.STATE, q -> liftMany(q, 19), q -> q.crush(0, 20));
    }

    static void liftMany(TerraceQuarry q, int blocks) {
        q.addWinch(2, 2, 9, 6);
        for (int cell = 0; cell < blocks; cell++) {
            q.cut(cell / 6, cell % 6);
            q.lift(0, cell / 6, cell % 6);
        }
    }

    private static void promises10To18Cells() {
        Twins.refusedOutside((q, r, c) -> q.height(r, c));
        Twins.refusedOutside((q, r, c) -> q.stone(r, c));
        Twins.refusedOutside((q, r, c) -> q.isLedge(r, c));
        Twins.refusedOutside((q, r, c) -> q.looseBlocks(r, c));
        Twins.refusedOutside((q, r, c) -> q.topBlock(r, c));
        Twins.refusedOutside((q, r, c) -> q.steepestStep(r, c));
        Twins.refusedOutside((q, r, c) -> q.canCut(r, c));
        Twins.refused(Check.MISSING, BUSY, q -> q.topBlock(1, 1), q -> q.topBlock(0, 5), q -> q.topBlock(0, 4));
        Twins.refused(Check.ARGUMENT, BUSY, q -> q.cellsAt(-1), q -> q.cellsAt(10), q -> q.cellsAt(MIN),
                q -> q.cellsAt(MAX));
    }

    private static void promises19And20CutsToLower() {
        Twins.refusedOutside((q, r, c) -> q.cutsToLower(r, c, 0));
        Twins.refusedOutside((q, r, c) -> q.cutsToLowerBySpreading(r, c, 0));
        Twins.refusedOutside((q, r, c) -> q.cutsToLower(r, c, -1));
        Twins.refusedOutside((q, r, c) -> q.cutsToLowerBySpreading(r, c, -1));
        // The cell 0, 0 has the height 6, the cell 4, 5 has 4 and the cell 4, 0 has 7.
        int[][] wrong = {{0, 0, -1}, {0, 0, 7}, {4, 5, 5}, {4, 5, 9}, {4, 0, 8}, {4, 0, -1}, {0, 0, MIN}, {0, 0, MAX}};
        for (int[] a : wrong) {
            Twins.refused(Check.ARGUMENT, BUSY, q -> q.cutsToLower(a[0], a[1], a[2]),
                    q -> q.cutsToLowerBySpreading(a[0], a[1], a[2]));
        }
    }

    private static void promises21To25Seams() {
        Twins.refusedOutside((q, r, c) -> q.seamSize(r, c));
        Twins.refusedOutside((q, r, c) -> q.seamVolume(r, c));
        Twins.refusedOutside((q, r, c) -> q.footpath(r, c, 0, 0));
        Twins.refusedOutside((q, r, c) -> q.footpath(0, 0, r, c));
        Twins.refusedOutside((q, r, c) -> q.footpath(r, c, r, c));
        // The cell 0, 5 is a ledge, so that there would be no footpath either.
        Twins.refusedOutside((q, r, c) -> q.footpath(0, 5, r, c));
        Twins.refusedOutside((q, r, c) -> q.footpath(r, c, 0, 5));
    }

    private static void promise25Footpath() {
        Twins.refused(Check.MISSING, BUSY, q -> q.footpath(0, 5, 0, 5), q -> q.footpath(0, 5, 0, 4),
                q -> q.footpath(0, 4, 0, 5), q -> q.footpath(4, 4, 4, 5), q -> q.footpath(4, 5, 0, 0));
        Twins.refused(Check.MISSING, Twins.busyAnd(q -> {
            q.toggleLedge(0, 1);
            q.toggleLedge(1, 0);
        }), q -> q.footpath(0, 0, 1, 1), q -> q.footpath(4, 4, 0, 0));
    }

    private static void promises27To36Winches() {
        Twins.refused(Check.INDEX, BUSY, q -> q.liftableCells(-1), q -> q.liftableCells(1), q -> q.liftableCells(MIN),
                q -> q.liftableCells(MAX));
        Twins.refused(Check.INDEX, Twins.NEW, q -> q.liftableCells(0), q -> q.liftableCells(-1));
        Twins.refused(Check.INDEX, Twins.busyAnd(RefusedTest::allWinches), q -> q.liftableCells(3));
        Twins.refused(Check.ARGUMENT, BUSY, q -> q.inYard(-1), q -> q.inYard(4), q -> q.inYard(MIN),
                q -> q.inYard(MAX));
        Twins.refused(Check.ARITHMETIC, Twins.NEW, TerraceQuarry::liftedShare);
        Twins.refused(Check.ARITHMETIC, q -> {
            q.cut(0, 0);
            q.undo();
        }, TerraceQuarry::liftedShare);
    }

    private static void promise28BestWinch() {
        Twins.refusedOutside((q, r, c) -> q.bestWinch(r, c));
        Twins.refused(Check.MISSING, q -> q.cut(0, 0), q -> q.bestWinch(0, 0), q -> q.bestWinch(1, 1));
        Twins.refused(Check.MISSING, BUSY, q -> q.bestWinch(0, 0), q -> q.bestWinch(0, 5));
        Twins.refused(Check.MISSING, Twins.busyAnd(q -> q.toggleLedge(4, 5)), q -> q.bestWinch(4, 5));
        // The first winch is too weak by one, the second one too far by one.
        Twins.refused(Check.MISSING, q -> {
            q.setStone(0, 0, 3);
            q.cut(0, 0);
            q.addWinch(0, 1, 4, 6);
            q.addWinch(2, 2, 9, 3);
        }, q -> q.bestWinch(0, 0));
    }

    private static void promise38Append() {
        String sixty = "cut 00;cut 02;cut 04;fill 11;fill 13;fill 15;fill 20;fill 22";
        Twins.refused(Check.STATE, Twins.then(Twins::busyWithoutText, q -> Check.type(q, sixty)), q -> q.append(';'),
                q -> q.append('c'), q -> q.append((char) 0), q -> q.append((char) 65535));
        TerraceQuarry q = new TerraceQuarry();
        Check.type(q, sixty);
        Check.due(Check.STATE, () -> q.append('2'));
        Check.due(8, q::run);
        Check.due(3, q::cutTotal);
        Check.due(0, q::rubble);
        Check.due(1, () -> q.append('c'));
    }

    private static void promise39RunOfNoProgram() {
        String[] texts = {"", "x", "cut 4", "cut 11;", "cut 11;stone 112;x", "ledge 11;winch 33 2 2;cut 111"};
        int[] positions = {0, 0, 5, 7, 17, 28};
        for (int i = 0; i < texts.length; i++) {
            String text = texts[i];
            Twins.Steps ran = Twins.then(Twins::busyWithoutText, q -> {
                Check.type(q, text);
                Check.due(Check.ARGUMENT, q::run);
            });
            Twins.sameState(Twins::busyWithoutText, ran);
            TerraceQuarry q = Twins.make(ran);
            int position = positions[i];
            Check.due(position, q::errorPosition);
            Check.due(1, q::failedCommand);
            Check.due("7a 6a 6a 6a 6a 4b.", () -> Twins.written(q));
            Check.due(1, () -> q.append('c'));
        }
    }

    private static void promise39RunOfFailingCommands() {
        String[] texts = {"cut 99", "cut 45;fill 30;crush 0 1;limit 5", "lift 0 45;ledge 05;stone 333;lift 0 45",
            "winch 00 9 6;cut 11;lift 1 11;lift 1 11", "cut 21;cut 22;cut 31;cut 32;limit 4;cut 06;cut 33;cut 34"};
        int[] commands = {0, 3, 3, 3, 5};
        for (int i = 0; i < texts.length; i++) {
            String text = texts[i];
            Twins.Steps ran = Twins.then(Twins::busyWithoutText, q -> {
                Check.type(q, text);
                Check.due(Check.UNSUPPORTED, q::run);
            });
            Twins.sameState(Twins::busyWithoutText, ran);
            TerraceQuarry q = Twins.make(ran);
            int command = commands[i];
            Check.due(command, q::failedCommand);
            Check.due(3, q::errorPosition);
            Check.due("7a 6a 6a 6a 6a 4b.", () -> Twins.written(q));
            Check.due(1, () -> q.append('c'));
        }
    }

    private static void promises40To43Texts() {
        Twins.refused(Check.MISSING, Twins.NEW, TerraceQuarry::errorPosition, TerraceQuarry::failedCommand);
        Twins.refused(Check.INDEX, BUSY, q -> q.writeRow(-1), q -> q.writeRow(5), q -> q.writeRow(MIN),
                q -> q.writeRow(MAX));
        Twins.refused(Check.INDEX, Twins.NEW, q -> q.writeRow(-1), q -> q.writeRow(5));
        // The line of BUSY has 18 characters.
        Twins.refused(Check.INDEX, BUSY, q -> q.outputAt(-1), q -> q.outputAt(18), q -> q.outputAt(MIN),
                q -> q.outputAt(MAX));
        Twins.refused(Check.INDEX, Twins.NEW, q -> q.outputAt(0), q -> q.outputAt(-1));
    }

    private static Object restored(TerraceQuarry q) {
        q.restore();
        return "restored";
    }

    private static void promises44And46Undo() {
        Twins.refused(Check.STATE, Twins.NEW, TerraceQuarry::undo, RefusedTest::restored);
        Twins.refused(Check.STATE, Twins.busyAnd(q -> {
            for (int i = 0; i < 8; i++) {
                q.undo();
            }
        }), TerraceQuarry::undo, TerraceQuarry::undo);
        Twins.refused(Check.STATE, Twins.busyAnd(TerraceQuarry::restore), TerraceQuarry::undo);
        Twins.refused(Check.STATE, q -> {
            q.cut(0, 0);
            Check.type(q, "cut 1");
        }, RefusedTest::restored, RefusedTest::restored);
    }
}
