/** Promises 38 to 43: the text buffer, programs and the output line. */
public final class ProgramsTest {
    public static void main(String[] args) {
        promise38Append();
        promise39RunEachCommand();
        promise39RunInOrder();
        promise39RunFails();
        promise40ErrorPositions();
        promise40NothingStored();
        promise40LongTexts();
        promise41FailedCommands();
        promises40And41StayApart();
        promise42WriteRow();
        promise43OutputAt();
        Check.end("ProgramsTest");
    }

    private static void promise38Append() {
        TerraceQuarry q = new TerraceQuarry();
        for (int i = 1; i <= 60; i++) {
            int length = i;
            Check.due(length, () -> q.append(length % 2 == 0 ? (char) 0 : (char) 65535));
        }
        Check.due(Check.STATE, () -> q.append('c'));
        Check.due(Check.STATE, () -> q.append('c'));
        Check.due(Check.ARGUMENT, q::run);
        Check.due(0, q::errorPosition);
        Check.due(1, () -> q.append('c'));
        Check.due(2, () -> q.append('c'));
    }

    private static void promise39RunEachCommand() {
        TerraceQuarry q = new TerraceQuarry();
        Check.due(1, () -> Check.run(q, "stone 123"));
        Check.due(3, () -> q.stone(1, 2));
        Check.due(1, () -> Check.run(q, "cut 12"));
        Check.due(5, () -> q.height(1, 2));
        Check.due(1, () -> Check.run(q, "fill 45"));
        Check.due(7, () -> q.height(4, 5));
        Check.due(1, () -> Check.run(q, "ledge 30"));
        Check.due(true, () -> q.isLedge(3, 0));
        Check.due(1, () -> Check.run(q, "limit 4"));
        Check.due(4, q::stepLimit);
        Check.due(1, () -> Check.run(q, "winch 02 5 1"));
        Check.due("6a 6a 6a^ 6a 6a 6a", () -> Check.line(q, 0));
        Check.due(1, () -> Check.run(q, "lift 0 12"));
        Check.due(1, () -> q.inYard(3));
        Check.due(1, () -> Check.run(q, "crush 3 1"));
        Check.due(6, q::rubble);
        Check.due(0, () -> q.inYard(3));
        Check.due(1, () -> Check.run(q, "cut 00"));
        Check.due(5, () -> q.height(0, 0));
        crushWithTwoDigits();
    }

    private static void crushWithTwoDigits() {
        TerraceQuarry q = new TerraceQuarry();
        q.addWinch(2, 2, 9, 6);
        for (int cell = 0; cell < 12; cell++) {
            q.cut(cell / 6, cell % 6);
            q.lift(0, cell / 6, cell % 6);
        }
        Check.due(1, () -> Check.run(q, "crush 0 02"));
        Check.due(10, () -> q.inYard(0));
        Check.due(2, () -> Check.run(q, "crush 0 10;cut 45"));
        Check.due(0, () -> q.inYard(0));
        Check.due(29, q::rubble);
    }

    private static void promise39RunInOrder() {
        TerraceQuarry q = new TerraceQuarry();
        Check.due(4, () -> Check.run(q, "limit 2;stone 001;cut 00;stone 002"));
        Check.due(1, () -> q.topBlock(0, 0));
        Check.due(2, () -> q.stone(0, 0));
        Check.due(5, () -> Check.run(q, "winch 00 9 6;cut 00;lift 0 00;lift 0 00;fill 00"));
        Check.due(1, () -> q.inYard(1));
        Check.due(1, () -> q.inYard(2));
        Check.due(5, () -> q.height(0, 0));
        Check.due(42L, q::workTotal);
        Check.due(8, () -> Check.run(q, "cut 10;cut 11;cut 12;cut 13;cut 14;cut 15;cut 20;cut 21"));
        Check.due(10, q::cutTotal);
        Check.due(Check.ARGUMENT, q::run);
    }

    private static void promise39RunFails() {
        TerraceQuarry q = new TerraceQuarry();
        q.cut(4, 4);
        q.undo();
        q.cut(0, 0);
        String before = Check.stateOf(q);
        Check.due(Check.UNSUPPORTED, () -> Check.run(q, "winch 00 9 6;lift 0 00;ledge 11;stone 112;cut 11"));
        Check.due(4, q::failedCommand);
        Check.due(1, () -> q.append('x'));
        Check.due(Check.ARGUMENT, q::run);
        Check.due(0, q::errorPosition);
        Check.due(Check.ARGUMENT, () -> Check.run(q, "cut 11;cut 1"));
        Check.due(before, () -> Check.stateOf(q));
        Check.due(0, q::undo);
        Check.due(6, () -> q.height(0, 0));
        Check.due(Check.STATE, q::undo);
    }

    private static void wrongAt(int position, String text) {
        TerraceQuarry q = new TerraceQuarry();
        Check.due(Check.ARGUMENT, () -> Check.run(q, text));
        Check.due(position, q::errorPosition);
        Check.due(Check.MISSING, q::failedCommand);
        Check.due(1, () -> q.append('c'));
    }

    private static void promise40ErrorPositions() {
        wrongAt(0, "");
        wrongAt(0, " cut 11");
        wrongAt(0, ";");
        wrongAt(0, "Cut 11");
        wrongAt(1, "c");
        wrongAt(1, "l");
        wrongAt(1, "ct 11");
        wrongAt(2, "li");
        wrongAt(2, "lix");
        wrongAt(1, "cat 11");
        wrongAt(3, "lif");
        wrongAt(3, "cut");
        wrongAt(3, "cut11");
        wrongAt(3, "limt 1");
        wrongAt(4, "cut ");
        wrongAt(4, "cut  11");
        wrongAt(4, "cut x1");
        wrongAt(5, "cut 1");
        wrongAt(5, "cut 1x");
        wrongAt(4, "cut /1");
        wrongAt(4, "cut :1");
        wrongAt(6, "cut 11 ");
        wrongAt(6, "cut 111");
        wrongAt(7, "cut 11;");
        wrongAt(7, "cut 11;;");
        wrongAt(7, "cut 11; cut 11");
        wrongAt(8, "stone 11");
        wrongAt(8, "stone 11 1");
        wrongAt(9, "stone 1111");
        wrongAt(7, "limit 44");
        wrongAt(6, "limit x");
        wrongAt(8, "winch 00");
        wrongAt(8, "winch 0099");
        wrongAt(9, "winch 00 ");
        wrongAt(10, "winch 00 99");
        wrongAt(11, "winch 00 9 ");
        wrongAt(12, "winch 00 9 66");
        wrongAt(6, "lift 0");
        wrongAt(6, "lift 000");
        wrongAt(8, "lift 0 0");
        wrongAt(9, "lift 0 000");
        wrongAt(7, "crush 0");
        wrongAt(8, "crush 0 ");
        wrongAt(8, "crush 0 x");
        wrongAt(9, "crush 0 1x");
        wrongAt(10, "crush 0 123");
        wrongAt(11, "crush 0 12;");
        wrongAt(13, "fill 00;ledge");
        wrongAt(15, "fill 00;ledge 0");
    }

    private static void promise40NothingStored() {
        TerraceQuarry q = new TerraceQuarry();
        Check.due(Check.MISSING, q::errorPosition);
        Check.run(q, "cut 00");
        Check.due(Check.MISSING, q::errorPosition);
        Check.due(Check.ARGUMENT, () -> Check.run(q, "cut"));
        Check.due(3, q::errorPosition);
        Check.run(q, "cut 11");
        Check.due(3, q::errorPosition);
        q.undo();
        q.save();
        q.restore();
        Check.due(3, q::errorPosition);
        Check.due(Check.ARGUMENT, q::run);
        Check.due(0, q::errorPosition);
    }

    private static void promise40LongTexts() {
        TerraceQuarry q = new TerraceQuarry();
        String eight = "cut 00;cut 02;cut 04;cut 11;cut 13;cut 15;cut 20;cut 22";
        Check.due(Check.ARGUMENT, () -> Check.run(q, eight + ";fill"));
        Check.due(60, q::errorPosition);
        Check.due(Check.ARGUMENT, () -> Check.run(q, eight + ";fi;l"));
        Check.due(58, q::errorPosition);
        Check.due(0, q::cutTotal);
        Check.type(q, eight);
        Check.due(56, () -> q.append(';'));
        Check.due(Check.ARGUMENT, q::run);
        Check.due(56, q::errorPosition);
        Check.due(8, () -> Check.run(q, eight));
        Check.due(8, q::cutTotal);
        char[] foreign = {'c', 'u', 't', ' ', (char) 0x661, (char) 0x661};
        Check.due(Check.ARGUMENT, () -> Check.run(q, new String(foreign)));
        Check.due(4, q::errorPosition);
    }

    private static void failsAt(int command, String text) {
        TerraceQuarry q = new TerraceQuarry();
        String before = Check.stateOf(q);
        Check.due(Check.UNSUPPORTED, () -> Check.run(q, text));
        Check.due(command, q::failedCommand);
        Check.due(Check.MISSING, q::errorPosition);
        Check.due(before, () -> Check.stateOf(q));
        Check.due(Check.STATE, q::undo);
        Check.due(1, () -> q.append('c'));
    }

    private static void promise41FailedCommands() {
        failsAt(0, "stone 501");
        failsAt(0, "stone 061");
        failsAt(0, "stone 004");
        failsAt(0, "cut 99");
        failsAt(0, "fill 06");
        failsAt(0, "ledge 50");
        failsAt(0, "ledge 06");
        failsAt(0, "limit 0");
        failsAt(0, "limit 5");
        failsAt(0, "winch 60 9 6");
        failsAt(0, "winch 00 1 6");
        failsAt(0, "winch 00 9 7");
        failsAt(0, "winch 00 9 0");
        failsAt(0, "lift 0 00");
        failsAt(0, "crush 0 1");
        failsAt(0, "crush 0 0");
        failsAt(0, "crush 4 1");
        failsAt(1, "cut 00;cut 00;cut 99");
        failsAt(1, "fill 00;fill 00");
        failsAt(2, "limit 2;cut 00;cut 06;limit 1");
        failsAt(3, "limit 2;cut 00;cut 00;limit 1");
        failsAt(2, "ledge 00;winch 00 9 6;winch 00 9 6");
        failsAt(3, "winch 00 2 1;winch 01 2 1;winch 02 2 1;winch 03 2 1");
        failsAt(4, "cut 00;winch 00 9 6;lift 0 00;crush 0 1;crush 0 1");
        failsAt(7, "cut 00;cut 02;cut 04;cut 11;cut 13;cut 15;cut 20;cut 20");
    }

    private static void promises40And41StayApart() {
        TerraceQuarry q = new TerraceQuarry();
        Check.due(Check.UNSUPPORTED, () -> Check.run(q, "cut 00;cut 00"));
        Check.due(Check.ARGUMENT, () -> Check.run(q, "cut 0"));
        Check.due(1, q::failedCommand);
        Check.due(5, q::errorPosition);
        Check.due(Check.UNSUPPORTED, () -> Check.run(q, "cut 99"));
        Check.due(0, q::failedCommand);
        Check.due(5, q::errorPosition);
        q.cut(0, 0);
        q.undo();
        q.save();
        q.restore();
        Check.due(0, q::failedCommand);
        Check.due(1, () -> Check.run(q, "cut 00"));
        Check.due(0, q::failedCommand);
    }

    private static void promise42WriteRow() {
        TerraceQuarry q = new TerraceQuarry();
        Check.due("6a 6a 6a 6a 6a 6a", () -> Check.line(q, 4));
        q.setStepLimit(4);
        q.setStone(2, 1, 1);
        q.cut(2, 1);
        q.cut(2, 1);
        q.toggleLedge(2, 2);
        q.setStone(2, 3, 2);
        q.addWinch(2, 3, 9, 6);
        q.setStone(2, 4, 3);
        q.fill(2, 5);
        Check.due(21, () -> q.writeRow(2));
        Check.due("6a 4b.. 6a= 6c^ 6d 7a", () -> Check.line(q, 2));
        q.cut(2, 3);
        q.cut(2, 3);
        q.cut(2, 3);
        q.toggleLedge(2, 3);
        Check.due("6a 4b.. 6a= 3c=^... 6d 7a", () -> Check.line(q, 2));
        Check.due("6a 6a 6a 6a 6a 6a", () -> Check.line(q, 3));
        Check.due(Check.INDEX, () -> q.writeRow(5));
        Check.due(Check.INDEX, () -> q.writeRow(-1));
        Check.due(Check.INDEX, () -> q.writeRow(Integer.MAX_VALUE));
        Check.due('a', () -> q.outputAt(16));
        Check.due(Check.INDEX, () -> q.outputAt(17));
        longestLine();
    }

    private static void longestLine() {
        TerraceQuarry q = new TerraceQuarry();
        q.setStepLimit(4);
        for (int column = 0; column < 6; column++) {
            for (int cut = 0; cut < 3; cut++) {
                q.cut(0, column);
            }
            q.toggleLedge(0, column);
        }
        q.addWinch(0, 1, 9, 6);
        q.addWinch(0, 3, 9, 6);
        q.addWinch(0, 5, 9, 6);
        Check.due("3a=... 3a=^... 3a=... 3a=^... 3a=... 3a=^...", () -> Check.line(q, 0));
        TerraceQuarry deep = ChangesTest.lowCorner();
        Check.due("0a^ 4a 6a 6a 6a 6a", () -> Check.line(deep, 0));
    }

    private static void promise43OutputAt() {
        TerraceQuarry q = new TerraceQuarry();
        Check.due(Check.INDEX, () -> q.outputAt(0));
        q.writeRow(0);
        Check.due('6', () -> q.outputAt(0));
        Check.due('a', () -> q.outputAt(16));
        Check.due(' ', () -> q.outputAt(14));
        Check.due(Check.INDEX, () -> q.outputAt(17));
        Check.due(Check.INDEX, () -> q.outputAt(-1));
        Check.due(Check.INDEX, () -> q.outputAt(Integer.MIN_VALUE));
        Check.due(Check.INDEX, () -> q.outputAt(Integer.MAX_VALUE));
        q.cut(0, 0);
        Check.due('6', () -> q.outputAt(0));
        q.writeRow(0);
        Check.due('5', () -> q.outputAt(0));
        Check.due('.', () -> q.outputAt(2));
        q.undo();
        Check.due('.', () -> q.outputAt(2));
        Check.due('a', () -> q.outputAt(17));
    }
}
