/** Promises 1 to 9: a new object, and the calls that change the cells, the winches and the yard. */
public final class ChangesTest {
    public static void main(String[] args) {
        promise01NewObject();
        promise02SetStone();
        promise03Cut();
        promise03CutAndSteps();
        promise04Fill();
        promise04FillAndSteps();
        promise05ToggleLedge();
        promise06SetStepLimit();
        promise07AddWinch();
        promise08Lift();
        promise08LiftRefused();
        promise09Crush();
        Check.end("ChangesTest");
    }

    private static void promise01NewObject() {
        TerraceQuarry q = new TerraceQuarry();
        for (int row = 0; row < 5; row++) {
            for (int column = 0; column < 6; column++) {
                int r = row;
                int c = column;
                Check.due(6, () -> q.height(r, c));
                Check.due(0, () -> q.stone(r, c));
                Check.due(0, () -> q.looseBlocks(r, c));
                Check.due(false, () -> q.isLedge(r, c));
            }
        }
        Check.due(0, q::winchCount);
        Check.due(1, q::stepLimit);
        Check.due(5, q::rubble);
        for (int stone = 0; stone < 4; stone++) {
            int s = stone;
            Check.due(0, () -> q.inYard(s));
        }
        Check.due(0, q::cutTotal);
        Check.due(0L, q::workTotal);
    }

    private static void promise02SetStone() {
        TerraceQuarry q = new TerraceQuarry();
        Check.due(0, () -> q.setStone(4, 5, 3));
        Check.due(3, () -> q.setStone(4, 5, 1));
        Check.due(1, () -> q.stone(4, 5));
        Check.due(0, () -> q.stone(4, 4));
        Check.due(0, () -> q.stone(3, 5));
        Check.due(1, () -> q.setStone(4, 5, 1));
        q.cut(4, 5);
        Check.due(1, () -> q.setStone(4, 5, 2));
        Check.due(1, () -> q.topBlock(4, 5));
        q.toggleLedge(4, 5);
        Check.due(2, () -> q.setStone(4, 5, 0));
        Check.due(Check.ARGUMENT, () -> q.setStone(0, 0, -1));
        Check.due(Check.ARGUMENT, () -> q.setStone(0, 0, 4));
        Check.due(Check.ARGUMENT, () -> q.setStone(0, 0, Integer.MAX_VALUE));
        Check.due(Check.INDEX, () -> q.setStone(-1, 0, 0));
        Check.due(Check.INDEX, () -> q.setStone(0, -1, 0));
        Check.due(Check.INDEX, () -> q.setStone(5, 0, 0));
        Check.due(Check.INDEX, () -> q.setStone(0, 6, 4));
        Check.due(Check.INDEX, () -> q.setStone(Integer.MIN_VALUE, Integer.MAX_VALUE, 9));
        Check.due(0, () -> q.stone(0, 0));
    }

    private static void promise03Cut() {
        TerraceQuarry q = new TerraceQuarry();
        q.setStone(1, 1, 2);
        q.setStepLimit(4);
        Check.due(5, () -> q.cut(1, 1));
        Check.due(5, () -> q.height(1, 1));
        Check.due(1, () -> q.looseBlocks(1, 1));
        Check.due(2, () -> q.topBlock(1, 1));
        q.setStone(1, 1, 3);
        Check.due(4, () -> q.cut(1, 1));
        Check.due(3, () -> q.topBlock(1, 1));
        Check.due(3, () -> q.cut(1, 1));
        Check.due(3, () -> q.stone(1, 1));
        Check.due(3, () -> q.looseBlocks(1, 1));
        Check.due(Check.STATE, () -> q.cut(1, 1));
        Check.due(3, q::cutTotal);
        Check.due(5, q::rubble);
        q.toggleLedge(0, 0);
        Check.due(Check.STATE, () -> q.cut(0, 0));
        Check.due(6, () -> q.height(0, 0));
        Check.due(Check.INDEX, () -> q.cut(5, 0));
        Check.due(Check.INDEX, () -> q.cut(-1, 0));
        Check.due(Check.INDEX, () -> q.cut(0, 6));
        Check.due(Check.INDEX, () -> q.cut(0, -1));
        Check.due(3, q::cutTotal);
    }

    private static void promise03CutAndSteps() {
        TerraceQuarry q = new TerraceQuarry();
        q.addWinch(0, 0, 9, 6);
        Check.due(5, () -> q.cut(2, 2));
        Check.due(Check.UNSUPPORTED, () -> q.cut(2, 2));
        Check.due(5, () -> q.height(2, 2));
        Check.due(1, () -> q.looseBlocks(2, 2));
        q.cut(1, 2);
        q.cut(3, 2);
        q.cut(2, 1);
        Check.due(Check.UNSUPPORTED, () -> q.cut(2, 2));
        q.cut(2, 3);
        Check.due(4, () -> q.cut(2, 2));
        q.toggleLedge(2, 2);
        Check.due(Check.STATE, () -> q.cut(2, 2));
        TerraceQuarry deep = lowCorner();
        Check.due(0, () -> deep.height(0, 0));
        Check.due(Check.STATE, () -> deep.cut(0, 0));
        Check.due(3, () -> deep.cut(0, 1));
    }

    /** A quarry with the height 0 at the cell 0, 0, where all blocks were lifted, and 4 beside it. */
    static TerraceQuarry lowCorner() {
        TerraceQuarry q = new TerraceQuarry();
        q.setStepLimit(4);
        q.addWinch(0, 0, 9, 6);
        lower(q, 0, 1, 4);
        lower(q, 1, 0, 4);
        lower(q, 0, 0, 0);
        return q;
    }

    static void lower(TerraceQuarry q, int row, int column, int height) {
        while (q.height(row, column) > height) {
            q.cut(row, column);
            q.lift(0, row, column);
        }
    }

    private static void promise04Fill() {
        TerraceQuarry q = new TerraceQuarry();
        q.setStepLimit(4);
        Check.due(7, () -> q.fill(0, 0));
        Check.due(4, q::rubble);
        Check.due(8, () -> q.fill(0, 0));
        Check.due(9, () -> q.fill(0, 0));
        Check.due(9, () -> q.height(0, 0));
        Check.due(2, q::rubble);
        Check.due(Check.STATE, () -> q.fill(0, 0));
        q.cut(4, 5);
        Check.due(Check.STATE, () -> q.fill(4, 5));
        q.toggleLedge(3, 3);
        Check.due(Check.STATE, () -> q.fill(3, 3));
        q.toggleLedge(3, 3);
        Check.due(7, () -> q.fill(3, 3));
        Check.due(8, () -> q.fill(3, 3));
        Check.due(0, q::rubble);
        Check.due(Check.STATE, () -> q.fill(3, 3));
        Check.due(8, () -> q.height(3, 3));
        Check.due(Check.INDEX, () -> q.fill(5, 0));
        Check.due(Check.INDEX, () -> q.fill(-1, 0));
        Check.due(Check.INDEX, () -> q.fill(0, 6));
        Check.due(Check.INDEX, () -> q.fill(0, -1));
        Check.due(1, q::cutTotal);
        Check.due(0, () -> q.looseBlocks(3, 3));
    }

    private static void promise04FillAndSteps() {
        TerraceQuarry q = new TerraceQuarry();
        Check.due(7, () -> q.fill(2, 2));
        Check.due(Check.UNSUPPORTED, () -> q.fill(2, 2));
        Check.due(4, q::rubble);
        q.addWinch(0, 0, 9, 6);
        q.cut(0, 1);
        Check.due(Check.UNSUPPORTED, () -> q.fill(0, 0));
        Check.due(7, () -> q.fill(0, 3));
        q.lift(0, 0, 1);
        Check.due(6, () -> q.fill(0, 1));
        Check.due(2, q::rubble);
        q.toggleLedge(2, 2);
        Check.due(Check.STATE, () -> q.fill(2, 2));
    }

    private static void promise05ToggleLedge() {
        TerraceQuarry q = new TerraceQuarry();
        q.cut(1, 5);
        Check.due(true, () -> q.toggleLedge(1, 5));
        Check.due(true, () -> q.isLedge(1, 5));
        Check.due(false, () -> q.isLedge(1, 4));
        Check.due(1, () -> q.looseBlocks(1, 5));
        Check.due(false, () -> q.toggleLedge(1, 5));
        Check.due(false, () -> q.isLedge(1, 5));
        Check.due(true, () -> q.toggleLedge(1, 5));
        Check.due(Check.INDEX, () -> q.toggleLedge(5, 0));
        Check.due(Check.INDEX, () -> q.toggleLedge(-1, 0));
        Check.due(Check.INDEX, () -> q.toggleLedge(0, 6));
        Check.due(Check.INDEX, () -> q.toggleLedge(0, -1));
    }

    private static void promise06SetStepLimit() {
        TerraceQuarry q = new TerraceQuarry();
        Check.due(1, () -> q.setStepLimit(4));
        Check.due(4, () -> q.setStepLimit(3));
        Check.due(3, () -> q.setStepLimit(3));
        Check.due(3, q::stepLimit);
        q.cut(4, 5);
        q.cut(4, 5);
        q.cut(4, 5);
        Check.due(Check.UNSUPPORTED, () -> q.setStepLimit(2));
        Check.due(Check.UNSUPPORTED, () -> q.setStepLimit(1));
        Check.due(3, q::stepLimit);
        Check.due(3, () -> q.setStepLimit(4));
        Check.due(Check.ARGUMENT, () -> q.setStepLimit(0));
        Check.due(Check.ARGUMENT, () -> q.setStepLimit(5));
        Check.due(Check.ARGUMENT, () -> q.setStepLimit(-1));
        Check.due(Check.ARGUMENT, () -> q.setStepLimit(Integer.MIN_VALUE));
        Check.due(4, q::stepLimit);
    }

    private static void promise07AddWinch() {
        TerraceQuarry q = new TerraceQuarry();
        Check.due(Check.INDEX, () -> q.addWinch(5, 0, 1, 0));
        Check.due(Check.INDEX, () -> q.addWinch(-1, 0, 2, 1));
        Check.due(Check.INDEX, () -> q.addWinch(0, 6, 2, 1));
        Check.due(Check.INDEX, () -> q.addWinch(0, -1, 2, 1));
        Check.due(Check.ARGUMENT, () -> q.addWinch(0, 0, 1, 1));
        Check.due(Check.ARGUMENT, () -> q.addWinch(0, 0, 10, 1));
        Check.due(Check.ARGUMENT, () -> q.addWinch(0, 0, 2, 0));
        Check.due(Check.ARGUMENT, () -> q.addWinch(0, 0, 2, 7));
        Check.due(0, q::winchCount);
        q.toggleLedge(0, 0);
        Check.due(0, () -> q.addWinch(0, 0, 2, 1));
        Check.due(Check.STATE, () -> q.addWinch(0, 0, 9, 6));
        Check.due(Check.ARGUMENT, () -> q.addWinch(0, 0, 10, 6));
        Check.due(1, () -> q.addWinch(4, 5, 9, 6));
        Check.due(Check.STATE, () -> q.addWinch(4, 5, 9, 6));
        Check.due(2, () -> q.addWinch(0, 5, 9, 1));
        Check.due(Check.STATE, () -> q.addWinch(1, 1, 9, 1));
        Check.due(Check.ARGUMENT, () -> q.addWinch(1, 1, 1, 1));
        Check.due(Check.INDEX, () -> q.addWinch(5, 5, 1, 1));
        Check.due(3, q::winchCount);
        Check.due("6a=^ 6a 6a 6a 6a 6a^", () -> Check.line(q, 0));
    }

    private static void promise08Lift() {
        TerraceQuarry q = new TerraceQuarry();
        q.setStepLimit(4);
        q.addWinch(2, 2, 9, 2);
        q.setStone(2, 4, 1);
        q.cut(2, 4);
        q.setStone(2, 4, 3);
        q.cut(2, 4);
        Check.due(30, () -> q.lift(0, 2, 4));
        Check.due(1, () -> q.looseBlocks(2, 4));
        Check.due(1, () -> q.topBlock(2, 4));
        Check.due(1, () -> q.inYard(3));
        Check.due(18, () -> q.lift(0, 2, 4));
        Check.due(1, () -> q.inYard(1));
        Check.due(48L, q::workTotal);
        Check.due(Check.MISSING, () -> q.lift(0, 2, 4));
        q.setStone(2, 2, 2);
        q.cut(2, 2);
        Check.due(20, () -> q.lift(0, 2, 2));
        TerraceQuarry deep = lowCorner();
        deep.fill(0, 0);
        deep.cut(0, 0);
        Check.due(20, () -> deep.lift(0, 0, 0));
    }

    private static void promise08LiftRefused() {
        TerraceQuarry q = new TerraceQuarry();
        q.setStone(2, 2, 1);
        q.setStone(0, 2, 1);
        q.cut(2, 2);
        q.cut(0, 2);
        Check.due(Check.INDEX, () -> q.lift(0, 2, 2));
        q.addWinch(2, 4, 2, 2);
        q.addWinch(1, 1, 3, 1);
        Check.due(Check.UNSUPPORTED, () -> q.lift(0, 2, 2));
        Check.due(Check.UNSUPPORTED, () -> q.lift(1, 2, 2));
        Check.due(Check.UNSUPPORTED, () -> q.lift(1, 0, 2));
        q.addWinch(1, 3, 3, 2);
        Check.due(Check.MISSING, () -> q.lift(2, 4, 0));
        Check.due(Check.INDEX, () -> q.lift(3, 2, 2));
        Check.due(Check.INDEX, () -> q.lift(-1, 2, 2));
        Check.due(Check.INDEX, () -> q.lift(0, 5, 2));
        Check.due(Check.INDEX, () -> q.lift(0, 2, 6));
        Check.due(Check.INDEX, () -> q.lift(0, -1, 2));
        Check.due(Check.INDEX, () -> q.lift(0, 2, -1));
        q.toggleLedge(2, 2);
        q.toggleLedge(4, 0);
        Check.due(Check.STATE, () -> q.lift(2, 2, 2));
        Check.due(Check.STATE, () -> q.lift(0, 2, 2));
        Check.due(Check.MISSING, () -> q.lift(2, 4, 0));
        Check.due(0L, q::workTotal);
        q.toggleLedge(2, 2);
        Check.due(15, () -> q.lift(2, 2, 2));
        Check.due(15, () -> q.lift(2, 0, 2));
        Check.due(2, () -> q.inYard(1));
    }

    private static void promise09Crush() {
        TerraceQuarry q = new TerraceQuarry();
        q.addWinch(0, 0, 9, 6);
        Check.due(Check.STATE, () -> q.crush(0, 1));
        q.cut(0, 0);
        q.lift(0, 0, 0);
        q.cut(0, 1);
        q.lift(0, 0, 1);
        q.cut(1, 0);
        q.lift(0, 1, 0);
        Check.due(Check.STATE, () -> q.crush(0, 4));
        Check.due(Check.STATE, () -> q.crush(1, 1));
        Check.due(9, () -> q.crush(0, 2));
        Check.due(1, () -> q.inYard(0));
        Check.due(9, q::rubble);
        Check.due(Check.STATE, () -> q.crush(0, 2));
        Check.due(11, () -> q.crush(0, 1));
        Check.due(0, () -> q.inYard(0));
        Check.due(Check.STATE, () -> q.crush(0, 20));
        Check.due(Check.ARGUMENT, () -> q.crush(0, 21));
        Check.due(Check.ARGUMENT, () -> q.crush(0, 0));
        Check.due(Check.ARGUMENT, () -> q.crush(0, -1));
        Check.due(Check.ARGUMENT, () -> q.crush(0, Integer.MIN_VALUE));
        Check.due(Check.ARGUMENT, () -> q.crush(4, 1));
        Check.due(Check.ARGUMENT, () -> q.crush(-1, 1));
        Check.due(11, q::rubble);
        crushTwenty();
    }

    private static void crushTwenty() {
        TerraceQuarry q = new TerraceQuarry();
        q.addWinch(2, 2, 9, 6);
        for (int cell = 0; cell < 21; cell++) {
            q.setStone(cell / 6, cell % 6, 3);
            q.cut(cell / 6, cell % 6);
            q.lift(0, cell / 6, cell % 6);
        }
        Check.due(21, () -> q.inYard(3));
        Check.due(Check.ARGUMENT, () -> q.crush(3, 21));
        Check.due(45, () -> q.crush(3, 20));
        Check.due(1, () -> q.inYard(3));
    }
}
