/** Counts the answers that are due and those that are not, and prints the latter. */
final class Check {
    interface Call {
        Object answer();
    }

    static final Class<IndexOutOfBoundsException> INDEX = IndexOutOfBoundsException.class;
    static final Class<IllegalArgumentException> ARGUMENT = IllegalArgumentException.class;
    static final Class<IllegalStateException> STATE = IllegalStateException.class;
    static final Class<UnsupportedOperationException> UNSUPPORTED = UnsupportedOperationException.class;
    static final Class<java.util.NoSuchElementException> MISSING = java.util.NoSuchElementException.class;
    static final Class<ArithmeticException> ARITHMETIC = ArithmeticException.class;

    private static int passed = 0;
    private static int failed = 0;

    private Check() {
    }

    /** The exception that the document names must come as itself, since a class below it is the machine's. */
    static Object answerOf(Call call) {
        try {
            return call.answer();
        } catch (RuntimeException e) {
            return e.getClass();
        }
    }

    static void due(Object want, Call call) {
        Object got = answerOf(call);
        if (want.equals(got)) {
            passed++;
        } else {
            failed++;
            System.out.println(caller() + " answered " + got + ", due is " + want);
        }
    }

    static void fail(String what) {
        failed++;
        System.out.println(what);
    }

    static void pass() {
        passed++;
    }

    static void end(String name) {
        System.out.println(name + ": " + passed + " answers as due, " + failed + " not as due");
        if (failed > 0 || passed == 0) {
            System.exit(1);
        }
    }

    static void type(TerraceQuarry quarry, String text) {
        for (int i = 0; i < text.length(); i++) {
            quarry.append(text.charAt(i));
        }
    }

    /** Types a program and runs it. */
    static int run(TerraceQuarry quarry, String text) {
        type(quarry, text);
        return quarry.run();
    }

    static String line(TerraceQuarry quarry, int row) {
        int length = quarry.writeRow(row);
        StringBuilder line = new StringBuilder();
        for (int i = 0; i < length; i++) {
            line.append(quarry.outputAt(i));
        }
        return line.toString();
    }

    /** Every answer that tells of the state which undo, save and restore concern. */
    static String stateOf(TerraceQuarry q) {
        StringBuilder all = new StringBuilder();
        for (int row = 0; row < 5; row++) {
            for (int column = 0; column < 6; column++) {
                int r = row;
                int c = column;
                all.append(q.height(r, c)).append(q.stone(r, c)).append(q.isLedge(r, c) ? '=' : '-');
                all.append(q.looseBlocks(r, c)).append(answerOf(() -> q.topBlock(r, c)));
                all.append(answerOf(() -> q.bestWinch(r, c))).append(' ');
            }
        }
        for (int i = 0; i < 4; i++) {
            int winch = i;
            all.append(q.inYard(i)).append(answerOf(() -> q.liftableCells(winch))).append(' ');
        }
        all.append(q.winchCount()).append(' ').append(q.rubble()).append(' ').append(q.stepLimit()).append(' ');
        all.append(q.cutTotal()).append(' ').append(q.workTotal()).append(' ').append(answerOf(q::liftedShare));
        return all.toString();
    }

    private static String caller() {
        for (StackTraceElement frame : new Throwable().getStackTrace()) {
            boolean helper = "Check.java".equals(frame.getFileName()) || "Twins.java".equals(frame.getFileName());
            if (!helper) {
                return frame.getFileName() + ":" + frame.getLineNumber();
            }
        }
        return "unknown";
    }
}
