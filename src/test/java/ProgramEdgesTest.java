/** The edges of the text buffer, of programs and of the output line (promises 38 to 43). */
public final class ProgramEdgesTest {
    /** The commands with # for a digit; the last number of crush may have a second one. */
    private static final String[] FORMS = {"stone ###", "cut ##", "fill ##", "ledge ##", "limit #", "winch ## # #",
        "lift # ##", "crush # #", "crush # ##"};
    private static final int[] MORE_SIGNS = {255, 256, 0x130, 0x661, 0xff11, 65535};

    public static void main(String[] args) {
        promise38EachLength();
        promise38SixtyCharacters();
        promise38AnyCharacter();
        promise39EmptyText();
        promise39MostCommands();
        promise39EachRange();
        promise39CrushNumbers();
        promise39SameAsTheCalls();
        promise39SameTextAgain();
        promise40EachNextCharacter();
        promise40EachPrefix();
        promise40AtTheEndOfTheBuffer();
        promise40And41StoredLast();
        promise41FirstAndLastCommand();
        promise41EarlierCommandsCount();
        promise42EachRow();
        promise42EachSign();
        promise43Range();
        promise43LongThenShort();
        Check.end("ProgramEdgesTest");
    }

    private static void promise38EachLength() {
        TerraceQuarry q = new TerraceQuarry();
        for (int length = 1; length <= 60; length++) {
            int l = length;
            Check.due(l, () -> q.append(' '));
        }
        for (int more = 0; more < 3; more++) {
            Check.due(Check.STATE, () -> q.append(' '));
        }
        Check.due(Check.ARGUMENT, q::run);
        for (int length = 1; length <= 60; length++) {
            int l = length;
            Check.due(l, () -> q.append('c'));
        }
        Check.due(Check.STATE, () -> q.append('c'));
        Check.due(Check.ARGUMENT, q::run);
        Check.due(1, q::errorPosition);
    }

    private static void promise38SixtyCharacters() {
        String sixty = "cut 00;cut 02;limit 2;limit 3;limit 4;limit 3;limit 2;cut 00";
        TerraceQuarry q = new TerraceQuarry();
        Check.type(q, sixty.substring(0, 59));
        Check.due(60, () -> q.append(sixty.charAt(59)));
        Check.due(Check.STATE, () -> q.append(';'));
        Check.due(8, q::run);
        Check.due(3, q::cutTotal);
        Check.due(2, q::stepLimit);
        Check.due(4, () -> q.height(0, 0));
        TerraceQuarry shorter = new TerraceQuarry();
        Check.type(shorter, sixty.substring(0, 59));
        Check.due(Check.ARGUMENT, shorter::run);
        Check.due(59, shorter::errorPosition);
    }

    private static void promise38AnyCharacter() {
        for (int sign = 0; sign <= 65535; sign++) {
            char character = (char) sign;
            TerraceQuarry q = new TerraceQuarry();
            Check.due(1, () -> q.append(character));
            Check.due(2, () -> q.append(character));
        }
    }

    private static void promise39EmptyText() {
        TerraceQuarry q = new TerraceQuarry();
        Check.due(Check.ARGUMENT, q::run);
        Check.due(0, q::errorPosition);
        Check.due(1, () -> Check.run(q, "cut 00"));
        Check.due(Check.ARGUMENT, q::run);
        Check.due(1, q::cutTotal);
    }

    private static void promise39MostCommands() {
        String[] cells = {"00", "02", "04", "11", "13", "15", "20", "22"};
        StringBuilder text = new StringBuilder();
        for (int count = 1; count <= cells.length; count++) {
            text.append(count > 1 ? ";" : "").append("cut ").append(cells[count - 1]);
            TerraceQuarry q = new TerraceQuarry();
            int n = count;
            Check.due(n, () -> Check.run(q, text.toString()));
            Check.due(n, q::cutTotal);
            Check.due(0, q::undo);
            Check.due(0, q::cutTotal);
        }
    }

    private static void runs(boolean works, Twins.Steps first, String text) {
        TerraceQuarry q = Twins.make(first);
        Check.due(works ? (Object) 1 : Check.UNSUPPORTED, () -> Check.run(q, text));
        Check.due(works ? Check.MISSING : (Object) 0, q::failedCommand);
        Check.due(Check.MISSING, q::errorPosition);
        Check.due(1, () -> q.append('c'));
    }

    private static void promise39EachRange() {
        for (int row = 0; row <= 9; row++) {
            for (int column = 0; column <= 9; column++) {
                boolean inside = row <= 4 && column <= 5;
                String cell = "" + row + column;
                int r = row;
                int c = column;
                Twins.Steps block = q -> {
                    q.addWinch(2, 2, 9, 6);
                    Check.answerOf(() -> q.cut(r, c));
                };
                runs(inside, Twins.NEW, "stone " + cell + "3");
                runs(inside, Twins.NEW, "cut " + cell);
                runs(inside, Twins.NEW, "fill " + cell);
                runs(inside, Twins.NEW, "ledge " + cell);
                runs(inside, Twins.NEW, "winch " + cell + " 2 1");
                runs(inside, block, "lift 0 " + cell);
            }
        }
        for (int digit = 0; digit <= 9; digit++) {
            runs(digit <= 3, Twins.NEW, "stone 45" + digit);
            runs(digit >= 1 && digit <= 4, Twins.NEW, "limit " + digit);
            runs(digit >= 2, Twins.NEW, "winch 45 " + digit + " 6");
            runs(digit >= 1 && digit <= 6, Twins.NEW, "winch 45 9 " + digit);
            runs(digit <= 2, ProgramEdgesTest::threeWinches, "lift " + digit + " 00");
            runs(digit <= 3, ProgramEdgesTest::oneOfEach, "crush " + digit + " 1");
        }
    }

    private static void threeWinches(TerraceQuarry q) {
        q.addWinch(0, 0, 2, 1);
        q.addWinch(0, 1, 2, 1);
        q.addWinch(1, 0, 2, 1);
        q.cut(0, 0);
    }

    private static void oneOfEach(TerraceQuarry q) {
        q.addWinch(2, 2, 9, 6);
        for (int stone = 0; stone <= 3; stone++) {
            q.setStone(0, stone, stone);
            q.cut(0, stone);
            q.lift(0, 0, stone);
        }
    }

    private static void promise39CrushNumbers() {
        for (int number = 0; number <= 99; number++) {
            boolean works = number >= 1 && number <= 20;
            Twins.Steps yard = q -> RefusedTest.liftMany(q, 22);
            String digits = (number < 10 ? "0" : "") + number;
            runs(works, yard, "crush 0 " + digits);
            if (number < 10) {
                runs(works, yard, "crush 0 " + number);
            }
            TerraceQuarry q = Twins.make(yard);
            Check.answerOf(() -> Check.run(q, "crush 0 " + digits));
            int left = works ? 22 - number : 22;
            Check.due(left, () -> q.inYard(0));
        }
    }

    /** A command leaves all that its method leaves, each number at its place. */
    private static void promise39SameAsTheCalls() {
        sameAs("stone 123", q -> q.setStone(1, 2, 3));
        sameAs("stone 450", q -> q.setStone(4, 5, 0));
        sameAs("cut 12", q -> q.cut(1, 2));
        sameAs("fill 21", q -> q.fill(2, 1));
        sameAs("ledge 34", q -> q.toggleLedge(3, 4));
        sameAs("ledge 05", q -> q.toggleLedge(0, 5));
        sameAs("limit 3", q -> q.setStepLimit(3));
        sameAs("winch 15 4 3", q -> q.addWinch(1, 5, 4, 3));
        sameAs("winch 40 3 5", q -> q.addWinch(4, 0, 3, 5));
        sameAs("winch 00 2 6", q -> q.addWinch(0, 0, 2, 6));
        sameAs("lift 0 45", q -> q.lift(0, 4, 5));
        sameAs("crush 0 1", q -> q.crush(0, 1));
        sameAs("crush 0 01", q -> q.crush(0, 1));
        // With another winch in front, the first number of lift is not the only one that can be right.
        Twins.sameState(ProgramEdgesTest::twoLifts, q -> {
            lowBlocks(q);
            Check.due(1, () -> Check.run(q, "lift 1 01"));
            Check.due(1, () -> Check.run(q, "lift 0 10"));
        });
    }

    private static void sameAs(String text, Twins.Act call) {
        Twins.sameState(q -> {
            Twins.busyWithoutText(q);
            call.on(q);
        }, q -> {
            Twins.busyWithoutText(q);
            Check.due(1, () -> Check.run(q, text));
        });
    }

    private static void lowBlocks(TerraceQuarry q) {
        q.addWinch(3, 0, 2, 2);
        q.addWinch(0, 3, 2, 2);
        q.cut(1, 0);
        q.cut(0, 1);
    }

    private static void twoLifts(TerraceQuarry q) {
        lowBlocks(q);
        q.lift(1, 0, 1);
        q.lift(0, 1, 0);
    }

    /** The commands of an earlier program are forgotten, whether it ran or not. */
    private static void promise39SameTextAgain() {
        TerraceQuarry q = new TerraceQuarry();
        Check.due(2, () -> Check.run(q, "cut 00;cut 02"));
        Check.due(1, () -> Check.run(q, "cut 04"));
        Check.due(3, q::cutTotal);
        Check.due(Check.UNSUPPORTED, () -> Check.run(q, "cut 11;cut 13;cut 99"));
        Check.due(1, () -> Check.run(q, "cut 11"));
        Check.due(4, q::cutTotal);
        Check.due(Check.ARGUMENT, () -> Check.run(q, "cut 13;cut 15;cut"));
        Check.due(1, () -> Check.run(q, "cut 20"));
        Check.due(5, q::cutTotal);
    }

    private static boolean fits(String form, String text) {
        if (text.length() > form.length()) {
            return false;
        }
        for (int i = 0; i < text.length(); i++) {
            char sign = text.charAt(i);
            boolean digit = sign >= '0' && sign <= '9';
            if (form.charAt(i) == '#' ? !digit : form.charAt(i) != sign) {
                return false;
            }
        }
        return true;
    }

    private static boolean begins(String command) {
        for (String form : FORMS) {
            if (fits(form, command)) {
                return true;
            }
        }
        return false;
    }

    private static boolean isCommand(String command) {
        for (String form : FORMS) {
            if (form.length() == command.length() && fits(form, command)) {
                return true;
            }
        }
        return false;
    }

    /** Behind each beginning of a command, alone and behind another command: each character that can follow or not. */
    private static void promise40EachNextCharacter() {
        for (String form : FORMS) {
            for (int length = 0; length <= form.length(); length++) {
                String command = form.substring(0, length).replace('#', '3');
                for (int sign = 0; sign < 128 + MORE_SIGNS.length; sign++) {
                    next("", command, (char) (sign < 128 ? sign : MORE_SIGNS[sign - 128]));
                }
                for (char sign : "0123456789 ;cflswx/:".toCharArray()) {
                    next("stone 000;", command, sign);
                }
            }
        }
    }

    private static void next(String before, String command, char sign) {
        String text = before + command + sign;
        TerraceQuarry q = new TerraceQuarry();
        if (isCommand(command + sign)) {
            Object answer = Check.answerOf(() -> Check.run(q, text));
            int commands = before.isEmpty() ? 1 : 2;
            Check.due(true, () -> answer.equals(Check.UNSUPPORTED) || answer.equals(commands));
            Check.due(Check.MISSING, q::errorPosition);
        } else {
            boolean goesOn = begins(command + sign) || sign == ';' && isCommand(command);
            Check.due(Check.ARGUMENT, () -> Check.run(q, text));
            Check.due(goesOn ? text.length() : text.length() - 1, q::errorPosition);
            Check.due(Check.MISSING, q::failedCommand);
        }
    }

    /** Digits from 0 to 9 stand at each place for a digit; the rest of a wrong text does not matter. */
    private static void promise40EachPrefix() {
        for (String form : FORMS) {
            for (int index = 0; index < form.length(); index++) {
                for (char wrong : "/:xX-\n".toCharArray()) {
                    String text = form.replace('#', '0');
                    int i = index;
                    TerraceQuarry q = new TerraceQuarry();
                    Check.due(Check.ARGUMENT, () -> Check.run(q, text.substring(0, i) + wrong + text.substring(i + 1)));
                    Check.due(i, q::errorPosition);
                }
            }
            for (char digit = '0'; digit <= '9'; digit++) {
                String text = form.replace('#', digit);
                TerraceQuarry q = new TerraceQuarry();
                Check.answerOf(() -> Check.run(q, text));
                Check.due(Check.MISSING, q::errorPosition);
            }
        }
    }

    private static void promise40AtTheEndOfTheBuffer() {
        String fiftySix = "cut 00;cut 02;cut 04;cut 11;cut 13;cut 15;cut 20;cut 22;";
        String[] ends = {"", "c", "cut", "cut ", "cux ", "cutx", "xxxx", "lift", ";cut"};
        int[] positions = {56, 57, 59, 60, 58, 59, 56, 60, 56};
        for (int i = 0; i < ends.length; i++) {
            String text = fiftySix + ends[i];
            int position = positions[i];
            TerraceQuarry q = new TerraceQuarry();
            Check.due(Check.ARGUMENT, () -> Check.run(q, text));
            Check.due(position, q::errorPosition);
            Check.due(0, q::cutTotal);
        }
    }

    private static void promise40And41StoredLast() {
        TerraceQuarry q = new TerraceQuarry();
        Check.due(Check.MISSING, q::errorPosition);
        Check.due(Check.MISSING, q::failedCommand);
        Check.answerOf(() -> Check.run(q, "cut 1x"));
        Check.due(5, q::errorPosition);
        Check.due(Check.MISSING, q::failedCommand);
        Check.answerOf(() -> Check.run(q, "cut 11;cut 99"));
        Check.due(5, q::errorPosition);
        Check.due(1, q::failedCommand);
        Check.answerOf(() -> Check.run(q, "cut 99"));
        Check.due(0, q::failedCommand);
        Check.answerOf(q::run);
        Check.due(0, q::errorPosition);
        Check.due(0, q::failedCommand);
        Check.due(1, () -> Check.run(q, "cut 11"));
        Check.answerOf(() -> Check.run(q, "cut 22;cut 22;cut 22"));
        Check.due(0, q::errorPosition);
        Check.due(1, q::failedCommand);
        Check.due(0, q::undo);
        Check.due(1, q::failedCommand);
    }

    private static void promise41FirstAndLastCommand() {
        String[] cells = {"00", "02", "04", "11", "13", "15", "20", "22"};
        for (int wrong = 0; wrong < cells.length; wrong++) {
            StringBuilder text = new StringBuilder();
            for (int i = 0; i < cells.length; i++) {
                text.append(i > 0 ? ";" : "").append("cut ").append(i == wrong ? "50" : cells[i]);
            }
            TerraceQuarry q = new TerraceQuarry();
            int w = wrong;
            Check.due(Check.UNSUPPORTED, () -> Check.run(q, text.toString()));
            Check.due(w, q::failedCommand);
            Check.due(0, q::cutTotal);
            Check.due(30, () -> q.cellsAt(6));
        }
        TerraceQuarry q = new TerraceQuarry();
        Check.due(Check.UNSUPPORTED, () -> Check.run(q, "cut 99;ledge 99;limit 9"));
        Check.due(0, q::failedCommand);
    }

    /** A command meets what the earlier ones of the same program have done. */
    private static void promise41EarlierCommandsCount() {
        TerraceQuarry q = new TerraceQuarry();
        Check.due(4, () -> Check.run(q, "ledge 00;ledge 00;cut 00;ledge 00"));
        Check.due(Check.UNSUPPORTED, () -> Check.run(q, "ledge 11;cut 11"));
        Check.due(1, q::failedCommand);
        Check.due(5, () -> Check.run(q, "fill 20;fill 22;fill 24;fill 31;fill 33"));
        Check.due(Check.UNSUPPORTED, () -> Check.run(q, "fill 35"));
        Check.due(0, q::failedCommand);
        Check.due(5, () -> Check.run(q, "ledge 00;winch 00 2 1;lift 0 00;crush 0 1;fill 35"));
        Check.due(1, q::rubble);
        Check.due(2, q::undo);
        Check.due(0, q::rubble);
    }

    private static void promise42EachRow() {
        TerraceQuarry q = new TerraceQuarry();
        for (int row = 0; row < 5; row++) {
            q.setStone(row, row, 3);
            q.cut(row, row);
        }
        for (int row = -1; row <= 5; row++) {
            int r = row;
            Check.due(row < 0 || row > 4 ? Check.INDEX : (Object) 18, () -> q.writeRow(r));
        }
        Check.due("5d. 6a 6a 6a 6a 6a", () -> Check.line(q, 0));
        Check.due("6a 5d. 6a 6a 6a 6a", () -> Check.line(q, 1));
        Check.due("6a 6a 5d. 6a 6a 6a", () -> Check.line(q, 2));
        Check.due("6a 6a 6a 5d. 6a 6a", () -> Check.line(q, 3));
        Check.due("6a 6a 6a 6a 5d. 6a", () -> Check.line(q, 4));
    }

    private static void promise42EachSign() {
        TerraceQuarry q = new TerraceQuarry();
        q.setStepLimit(4);
        q.addWinch(0, 5, 9, 6);
        for (int stone = 0; stone <= 3; stone++) {
            q.setStone(0, stone, stone);
            for (int block = 0; block < stone; block++) {
                q.cut(0, stone);
            }
        }
        Check.due("6a 5b. 4c.. 3d... 6a 6a^", () -> Check.line(q, 0));
        q.toggleLedge(0, 0);
        q.toggleLedge(0, 3);
        q.toggleLedge(0, 5);
        Check.due("6a= 5b. 4c.. 3d=... 6a 6a=^", () -> Check.line(q, 0));
        q.addWinch(0, 3, 2, 1);
        q.cut(0, 4);
        q.addWinch(0, 4, 2, 1);
        Check.due("6a= 5b. 4c.. 3d=^... 5a^. 6a=^", () -> Check.line(q, 0));
        eachHeight();
    }

    private static void eachHeight() {
        for (int height = 0; height <= 8; height++) {
            TerraceQuarry q = new TerraceQuarry();
            q.setStepLimit(4);
            q.addWinch(2, 2, 9, 6);
            Twins.bring(q, 0, 1, 4);
            Twins.bring(q, 1, 0, 4);
            Twins.bring(q, 0, 0, height);
            String line = height + "a 4a 6a 6a 6a 6a";
            Check.due(line, () -> Check.line(q, 0));
        }
        TerraceQuarry q = new TerraceQuarry();
        q.setStepLimit(3);
        Twins.bring(q, 4, 0, 9);
        Check.due("9a 6a 6a 6a 6a 6a", () -> Check.line(q, 4));
    }

    private static void promise43Range() {
        TerraceQuarry q = new TerraceQuarry();
        Check.due(Check.INDEX, () -> q.outputAt(0));
        Check.due(Check.INDEX, () -> q.outputAt(-1));
        Check.due(17, () -> q.writeRow(4));
        String line = "6a 6a 6a 6a 6a 6a";
        for (int index = -2; index <= 19; index++) {
            int i = index;
            boolean inside = index >= 0 && index < 17;
            Check.due(inside ? (Object) line.charAt(i) : Check.INDEX, () -> q.outputAt(i));
        }
    }

    private static void promise43LongThenShort() {
        TerraceQuarry q = new TerraceQuarry();
        q.setStepLimit(4);
        q.cut(0, 5);
        q.cut(0, 5);
        q.cut(0, 5);
        Check.due(20, () -> q.writeRow(0));
        Check.due('.', () -> q.outputAt(19));
        Check.due(Check.INDEX, () -> q.outputAt(20));
        Check.due(17, () -> q.writeRow(1));
        Check.due(Check.INDEX, () -> q.outputAt(17));
        Check.due(Check.INDEX, () -> q.outputAt(19));
        Check.due('a', () -> q.outputAt(16));
        // A refused row leaves the line, and so do calls that change the row.
        Check.due(Check.INDEX, () -> q.writeRow(5));
        q.cut(1, 5);
        Check.due("6a 6a 6a 6a 6a 6a", () -> Twins.written(q));
        Check.due(18, () -> q.writeRow(1));
        Check.due("6a 6a 6a 6a 6a 5a.", () -> Twins.written(q));
    }
}
