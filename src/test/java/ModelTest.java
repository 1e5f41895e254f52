import java.lang.reflect.InvocationTargetException;
import java.lang.reflect.Method;
import java.util.HashMap;
import java.util.Map;

/** Long runs of mixed calls, each answered by the program and by the plain model. */
public final class ModelTest {
    private static final int RUNS = 300;
    private static final int CALLS = 512;
    /** Six commands of 12 characters with what parts them, and the three calls behind them. */
    private static final int LONGEST_PROGRAM = 6 * 13 + 3;
    private static final String[] CHANGES = {"setStone", "cut", "cut", "cut", "cut", "cut", "fill", "fill", "toggleLedge",
        "setStepLimit", "addWinch", "lift", "lift", "lift", "lift", "crush", "undo", "save", "restore"};
    private static final String[] QUERIES = {"height", "stone", "isLedge", "looseBlocks", "topBlock", "steepestStep",
        "canCut", "cuttableCells", "cellsAt", "cutsToLower", "cutsToLowerBySpreading", "seamSize", "seamVolume",
        "seamCount", "seamCountByMerging", "footpath", "winchCount", "liftableCells", "bestWinch", "inYard",
        "yardWeight", "rubble", "stepLimit", "cutTotal", "workTotal", "meanHeight", "liftedShare", "isConsistent",
        "errorPosition", "failedCommand", "writeRow", "outputAt"};
    private static final String[] WORDS = {"stone ", "cut ", "fill ", "ledge ", "limit ", "winch ", "lift ", "crush "};
    private static final String SIGNS = "0123456789 ;cutlifxabe/:";

    private static final Map<String, Method> METHODS = new HashMap<>();

    private long seed;
    private TerraceQuarry quarry;
    private PlainModel model;
    private int calls;

    public static void main(String[] args) {
        for (Method method : TerraceQuarry.class.getMethods()) {
            METHODS.put(method.getName(), method);
        }
        for (int run = 0; run < RUNS; run++) {
            new ModelTest().mixedRun(run);
        }
        Check.end("ModelTest");
    }

    /** The same numbers in every run of the test, so that a wrong answer can be found again. */
    private int below(int bound) {
        seed = seed * 6364136223846793005L + 1442695040888963407L;
        return (int) ((seed >>> 33) % bound);
    }

    private void mixedRun(int run) {
        seed = run + 1;
        quarry = new TerraceQuarry();
        model = new PlainModel();
        calls = 0;
        // A low limit keeps the cells together, a high one lets them reach the heights 0 and 9.
        boolean steep = run % 2 == 0;
        while (calls < CALLS) {
            int kind = below(20);
            if (kind == 0 && calls + LONGEST_PROGRAM <= CALLS) {
                typeProgram();
            } else if (kind < 12) {
                String name = CHANGES[below(CHANGES.length)];
                if (steep && name.equals("setStepLimit")) {
                    same(run, name, 4);
                } else if (name.equals("restore") && below(4) > 0) {
                    same(run, "rubble");
                } else {
                    same(run, name, numbersFor(name));
                }
            } else {
                String name = QUERIES[below(QUERIES.length)];
                same(run, name, numbersFor(name));
            }
        }
    }

    private int[] numbersFor(String name) {
        int count = METHODS.get(name).getParameterCount();
        int[] numbers = new int[count];
        boolean wrong = below(12) == 0;
        for (int i = 0; i < count; i++) {
            numbers[i] = wrong ? below(13) - 2 : fitting(name, i);
        }
        return numbers;
    }

    /** The corner is called more often, so that deep cuts and stacks come up. */
    private int fitting(String name, int index) {
        int place = name.equals("lift") ? index - 1 : index;
        switch (name) {
            case "setStepLimit": return 1 + below(4);
            case "crush": return index == 0 ? below(4) : 1 + below(6);
            case "inYard": return below(4);
            case "cellsAt": return below(10);
            case "liftableCells": return below(3);
            case "writeRow": return below(5);
            case "outputAt": return below(24);
            default: break;
        }
        if (place == -1) {
            return below(3);
        }
        if (place == 2) {
            return name.equals("addWinch") ? 2 + below(8) : below(name.equals("setStone") ? 4 : 5);
        }
        if (place == 3) {
            return name.equals("addWinch") ? 1 + below(6) : below(6);
        }
        return below(3) > 0 ? below(2) : below(place == 0 ? 5 : 6);
    }

    private void typeProgram() {
        StringBuilder text = new StringBuilder();
        int commands = 1 + below(6);
        for (int i = 0; i < commands; i++) {
            text.append(i > 0 ? ";" : "").append(command());
        }
        if (below(3) == 0) {
            text.setLength(below(text.length() + 1));
        }
        if (text.length() > 0 && below(3) == 0) {
            text.setCharAt(below(text.length()), SIGNS.charAt(below(SIGNS.length())));
        }
        for (int i = 0; i < text.length(); i++) {
            same(-1, "append", text.charAt(i));
        }
        same(-1, "run");
        same(-1, "errorPosition");
        same(-1, "failedCommand");
    }

    private String command() {
        String word = WORDS[below(WORDS.length)];
        String cell = "" + below(3) + below(3);
        switch (word) {
            case "stone ": return word + cell + below(5);
            case "limit ": return word + (1 + below(5));
            case "winch ": return word + cell + " " + (2 + below(8)) + " " + (1 + below(6));
            case "lift ": return word + below(3) + " " + cell;
            case "crush ": return word + below(4) + " " + below(3) + (below(2) == 0 ? "" : "" + below(10));
            default: return word + cell;
        }
    }

    private void same(int run, String name, int... numbers) {
        calls++;
        Object want = Check.answerOf(() -> model.call(name, numbers));
        Object got = Check.answerOf(() -> answerOf(name, numbers));
        if (want.equals(got)) {
            Check.pass();
        } else {
            Check.fail("run " + run + " call " + calls + ": " + name + java.util.Arrays.toString(numbers)
                    + " answered " + got + ", the model says " + want);
        }
    }

    private Object answerOf(String name, int[] numbers) {
        Object[] values = new Object[numbers.length];
        for (int i = 0; i < numbers.length; i++) {
            values[i] = name.equals("append") ? (Object) (char) numbers[i] : (Object) numbers[i];
        }
        try {
            Object answer = METHODS.get(name).invoke(quarry, values);
            return answer == null ? "nothing" : answer;
        } catch (InvocationTargetException e) {
            throw (RuntimeException) e.getCause();
        } catch (IllegalAccessException e) {
            throw new AssertionError(e);
        }
    }
}
