import java.util.ArrayDeque;
import java.util.ArrayList;
import java.util.Arrays;
import java.util.Deque;
import java.util.HashMap;
import java.util.HashSet;
import java.util.List;
import java.util.Map;
import java.util.NoSuchElementException;
import java.util.Set;
import java.util.regex.Matcher;
import java.util.regex.Pattern;

/**
 * The document once more, in other words than the program: cells are objects in a map, a state is copied by making
 * its cells anew, programs are read by a regular expression, and paths and seams are found by plain repetition.
 */
final class PlainModel {
    private static final String CELL = "[0-9][0-9]";
    private static final String COMMAND = "(?:stone " + CELL + "[0-9]|cut " + CELL + "|fill " + CELL + "|ledge " + CELL
            + "|limit [0-9]|winch " + CELL + " [0-9] [0-9]|lift [0-9] " + CELL + "|crush [0-9] [0-9][0-9]?)";
    private static final Pattern PROGRAM = Pattern.compile(COMMAND + "(?:;" + COMMAND + ")*");

    private static final class Cell {
        int height = 6;
        int stone = 0;
        boolean ledge = false;
        List<Integer> stack = new ArrayList<>();

        Cell copy() {
            Cell cell = new Cell();
            cell.height = height;
            cell.stone = stone;
            cell.ledge = ledge;
            cell.stack.addAll(stack);
            return cell;
        }
    }

    private static final class State {
        Map<List<Integer>, Cell> cells = new HashMap<>();
        List<int[]> winches = new ArrayList<>();
        int[] yard = new int[4];
        int limit = 1;
        int rubble = 5;
        int cuts = 0;
        List<Integer> works = new ArrayList<>();

        State() {
            for (int r = 0; r < 5; r++) {
                for (int c = 0; c < 6; c++) {
                    cells.put(List.of(r, c), new Cell());
                }
            }
        }

        State copy() {
            State state = new State();
            cells.forEach((place, cell) -> state.cells.put(place, cell.copy()));
            state.winches.addAll(winches);
            state.yard = yard.clone();
            state.limit = limit;
            state.rubble = rubble;
            state.cuts = cuts;
            state.works.addAll(works);
            return state;
        }
    }

    private State now = new State();
    private State saved = null;
    private final Deque<State> past = new ArrayDeque<>();
    private String text = "";
    private String line = "";
    private Integer errorPosition = null;
    private Integer failedCommand = null;

    /** Answers a call by its name; exceptions are thrown as the document lists them. */
    Object call(String name, int... a) {
        List<String> changing = List.of("setStone", "cut", "fill", "toggleLedge", "setStepLimit", "addWinch", "lift",
                "crush", "run");
        State before = now.copy();
        try {
            Object answer = answer(name, a);
            if (changing.contains(name)) {
                past.addFirst(before);
                if (past.size() > 8) {
                    past.removeLast();
                }
            }
            return answer;
        } catch (RuntimeException e) {
            now = before;
            throw e;
        }
    }

    private Object answer(String name, int[] a) {
        switch (name) {
            case "setStone": return setStone(a[0], a[1], a[2]);
            case "cut": return cut(a[0], a[1]);
            case "fill": return fill(a[0], a[1]);
            case "toggleLedge": return cell(a[0], a[1]).ledge = !cell(a[0], a[1]).ledge;
            case "setStepLimit": return setStepLimit(a[0]);
            case "addWinch": return addWinch(a[0], a[1], a[2], a[3]);
            case "lift": return lift(a[0], a[1], a[2]);
            case "crush": return crush(a[0], a[1]);
            case "height": return cell(a[0], a[1]).height;
            case "stone": return cell(a[0], a[1]).stone;
            case "isLedge": return cell(a[0], a[1]).ledge;
            case "looseBlocks": return cell(a[0], a[1]).stack.size();
            case "topBlock": return top(cell(a[0], a[1]));
            case "steepestStep": return steepest(a[0], a[1], cell(a[0], a[1]).height);
            case "canCut": cell(a[0], a[1]); return works("cut", a[0], a[1]);
            case "cuttableCells": return (int) now.cells.keySet().stream()
                    .filter(p -> works("cut", p.get(0), p.get(1))).count();
            case "cellsAt": return cellsAt(a[0]);
            case "cutsToLower":
            case "cutsToLowerBySpreading": return cutsToLower(a[0], a[1], a[2]);
            case "seamSize": cell(a[0], a[1]); return seam(List.of(a[0], a[1])).size();
            case "seamVolume": cell(a[0], a[1]); return seam(List.of(a[0], a[1])).stream()
                    .mapToInt(p -> now.cells.get(p).height).sum();
            case "seamCount":
            case "seamCountByMerging": return seamCount();
            case "footpath": return footpath(a[0], a[1], a[2], a[3]);
            default: return answerAboutTheRest(name, a);
        }
    }

    private Object answerAboutTheRest(String name, int[] a) {
        switch (name) {
            case "winchCount": return now.winches.size();
            case "liftableCells": return liftableCells(a[0]);
            case "bestWinch": return bestWinch(a[0], a[1]);
            case "inYard": require(a[0] >= 0 && a[0] <= 3, new IllegalArgumentException()); return now.yard[a[0]];
            case "yardWeight": return 2 * now.yard[0] + 3 * now.yard[1] + 4 * now.yard[2] + 5 * now.yard[3];
            case "rubble": return now.rubble;
            case "stepLimit": return now.limit;
            case "cutTotal": return now.cuts;
            case "workTotal": return now.works.stream().mapToLong(w -> w).sum();
            case "meanHeight": return now.cells.values().stream().mapToInt(c -> c.height).sum() / 30.0;
            case "liftedShare":
                require(now.cuts > 0, new ArithmeticException());
                return now.works.size() / (float) now.cuts;
            case "isConsistent": return true;
            case "append":
                require(text.length() < 60, new IllegalStateException());
                text += (char) a[0];
                return text.length();
            case "run": return run();
            case "errorPosition": require(errorPosition != null, new NoSuchElementException()); return errorPosition;
            case "failedCommand": require(failedCommand != null, new NoSuchElementException()); return failedCommand;
            case "writeRow": return writeRow(a[0]);
            case "outputAt":
                require(a[0] >= 0 && a[0] < line.length(), new IndexOutOfBoundsException());
                return line.charAt(a[0]);
            case "undo":
                require(!past.isEmpty(), new IllegalStateException());
                now = past.removeFirst();
                return past.size();
            case "save": saved = now.copy(); return "nothing";
            case "restore":
                require(saved != null, new IllegalStateException());
                now = saved.copy();
                past.clear();
                return "nothing";
            default: throw new AssertionError(name);
        }
    }

    private static void require(boolean holds, RuntimeException otherwise) {
        if (!holds) {
            throw otherwise;
        }
    }

    private Cell cell(int r, int c) {
        Cell cell = now.cells.get(List.of(r, c));
        require(cell != null, new IndexOutOfBoundsException());
        return cell;
    }

    private boolean works(String name, int... a) {
        State before = now;
        now = before.copy();
        try {
            answer(name, a);
            return true;
        } catch (RuntimeException e) {
            return false;
        } finally {
            now = before;
        }
    }

    private List<List<Integer>> near(int r, int c) {
        List<List<Integer>> places = new ArrayList<>(List.of(List.of(r - 1, c), List.of(r + 1, c), List.of(r, c - 1),
                List.of(r, c + 1)));
        places.removeIf(p -> !now.cells.containsKey(p));
        return places;
    }

    private int steepest(int r, int c, int height) {
        return near(r, c).stream().mapToInt(p -> Math.abs(now.cells.get(p).height - height)).max().getAsInt();
    }

    private int setStone(int r, int c, int stone) {
        Cell cell = cell(r, c);
        require(stone >= 0 && stone <= 3, new IllegalArgumentException());
        int previous = cell.stone;
        cell.stone = stone;
        return previous;
    }

    private int cut(int r, int c) {
        Cell cell = cell(r, c);
        require(!cell.ledge && cell.height != 0 && cell.stack.size() != 3, new IllegalStateException());
        require(steepest(r, c, cell.height - 1) <= now.limit, new UnsupportedOperationException());
        cell.stack.add(cell.stone);
        now.cuts++;
        return --cell.height;
    }

    private int fill(int r, int c) {
        Cell cell = cell(r, c);
        require(!cell.ledge && cell.height != 9 && cell.stack.isEmpty() && now.rubble != 0, new IllegalStateException());
        require(steepest(r, c, cell.height + 1) <= now.limit, new UnsupportedOperationException());
        now.rubble--;
        return ++cell.height;
    }

    private int setStepLimit(int limit) {
        require(limit >= 1 && limit <= 4, new IllegalArgumentException());
        now.cells.forEach((p, cell) ->
                require(steepest(p.get(0), p.get(1), cell.height) <= limit, new UnsupportedOperationException()));
        int previous = now.limit;
        now.limit = limit;
        return previous;
    }

    private int addWinch(int r, int c, int capacity, int reach) {
        cell(r, c);
        require(capacity >= 2 && capacity <= 9 && reach >= 1 && reach <= 6, new IllegalArgumentException());
        require(now.winches.size() < 3, new IllegalStateException());
        require(!hasWinch(r, c), new IllegalStateException());
        now.winches.add(new int[] {r, c, capacity, reach});
        return now.winches.size() - 1;
    }

    private boolean hasWinch(int r, int c) {
        return now.winches.stream().anyMatch(w -> w[0] == r && w[1] == c);
    }

    private static int top(Cell cell) {
        require(!cell.stack.isEmpty(), new NoSuchElementException());
        return cell.stack.get(cell.stack.size() - 1);
    }

    private int lift(int winch, int r, int c) {
        require(winch >= 0 && winch < now.winches.size(), new IndexOutOfBoundsException());
        Cell cell = cell(r, c);
        int stone = top(cell);
        require(!cell.ledge, new IllegalStateException());
        int[] w = now.winches.get(winch);
        require(Math.abs(w[0] - r) + Math.abs(w[1] - c) <= w[3], new UnsupportedOperationException());
        require(2 + stone <= w[2], new UnsupportedOperationException());
        cell.stack.remove(cell.stack.size() - 1);
        now.yard[stone]++;
        now.works.add((2 + stone) * (10 - cell.height));
        return now.works.get(now.works.size() - 1);
    }

    private int crush(int stone, int blocks) {
        require(stone >= 0 && stone <= 3 && blocks >= 1 && blocks <= 20, new IllegalArgumentException());
        require(now.yard[stone] >= blocks, new IllegalStateException());
        now.yard[stone] -= blocks;
        return now.rubble += 2 * blocks;
    }

    private int cellsAt(int height) {
        require(height >= 0 && height <= 9, new IllegalArgumentException());
        return (int) now.cells.values().stream().filter(c -> c.height == height).count();
    }

    private int cutsToLower(int r, int c, int height) {
        Cell target = cell(r, c);
        require(height >= 0 && height <= target.height, new IllegalArgumentException());
        return now.cells.entrySet().stream().mapToInt(e -> Math.max(0, e.getValue().height - height
                - now.limit * (Math.abs(e.getKey().get(0) - r) + Math.abs(e.getKey().get(1) - c)))).sum();
    }

    private Set<List<Integer>> seam(List<Integer> start) {
        Set<List<Integer>> seam = new HashSet<>();
        if (now.cells.get(start).height > 0) {
            seam.add(start);
        }
        for (boolean grew = true; grew;) {
            Set<List<Integer>> more = new HashSet<>();
            for (List<Integer> p : seam) {
                for (List<Integer> q : near(p.get(0), p.get(1))) {
                    Cell cell = now.cells.get(q);
                    if (cell.height > 0 && cell.stone == now.cells.get(start).stone) {
                        more.add(q);
                    }
                }
            }
            grew = seam.addAll(more);
        }
        return seam;
    }

    private int seamCount() {
        Set<Set<List<Integer>>> seams = new HashSet<>();
        now.cells.keySet().forEach(p -> seams.add(seam(p)));
        seams.remove(Set.of());
        return seams.size();
    }

    private int footpath(int r, int c, int otherR, int otherC) {
        cell(r, c);
        cell(otherR, otherC);
        Map<List<Integer>, Integer> length = new HashMap<>();
        if (!cell(r, c).ledge) {
            length.put(List.of(r, c), 0);
        }
        for (int round = 0; round < 30; round++) {
            for (List<Integer> p : now.cells.keySet()) {
                for (List<Integer> q : near(p.get(0), p.get(1))) {
                    boolean walkable = !now.cells.get(p).ledge && !now.cells.get(q).ledge
                            && Math.abs(now.cells.get(p).height - now.cells.get(q).height) <= 1;
                    if (walkable && length.containsKey(p)) {
                        length.merge(q, length.get(p) + 1, Math::min);
                    }
                }
            }
        }
        require(length.containsKey(List.of(otherR, otherC)), new NoSuchElementException());
        return length.get(List.of(otherR, otherC));
    }

    private int liftableCells(int winch) {
        require(winch >= 0 && winch < now.winches.size(), new IndexOutOfBoundsException());
        return (int) now.cells.keySet().stream().filter(p -> works("lift", winch, p.get(0), p.get(1))).count();
    }

    private int bestWinch(int r, int c) {
        cell(r, c);
        for (int capacity = 2; capacity <= 9; capacity++) {
            for (int winch = 0; winch < now.winches.size(); winch++) {
                if (now.winches.get(winch)[2] == capacity && works("lift", winch, r, c)) {
                    return winch;
                }
            }
        }
        throw new NoSuchElementException();
    }

    private int writeRow(int row) {
        cell(row, 0);
        List<String> parts = new ArrayList<>();
        for (int c = 0; c < 6; c++) {
            Cell cell = cell(row, c);
            parts.add(cell.height + "abcd".substring(cell.stone, cell.stone + 1) + (cell.ledge ? "=" : "")
                    + (hasWinch(row, c) ? "^" : "") + ".".repeat(cell.stack.size()));
        }
        line = String.join(" ", parts);
        return line.length();
    }

    private int run() {
        String program = text;
        text = "";
        if (!PROGRAM.matcher(program).matches()) {
            errorPosition = firstWrong(program);
            throw new IllegalArgumentException();
        }
        String[] commands = program.split(";");
        for (int i = 0; i < commands.length; i++) {
            try {
                carryOut(commands[i]);
            } catch (RuntimeException e) {
                failedCommand = i;
                throw new UnsupportedOperationException();
            }
        }
        return commands.length;
    }

    /** A text that matches, or that ran out while it was matched, can be continued to a program. */
    private static int firstWrong(String program) {
        for (int length = 1; length <= program.length(); length++) {
            Matcher matcher = PROGRAM.matcher(program.substring(0, length));
            if (!matcher.matches() && !matcher.hitEnd()) {
                return length - 1;
            }
        }
        return program.length();
    }

    private void carryOut(String command) {
        String[] words = command.split(" ");
        Map<String, String> names = Map.of("stone", "setStone", "cut", "cut", "fill", "fill", "ledge", "toggleLedge",
                "limit", "setStepLimit", "winch", "addWinch", "lift", "lift", "crush", "crush");
        int[] numbers;
        if (words[0].equals("crush")) {
            numbers = new int[] {Integer.parseInt(words[1]), Integer.parseInt(words[2])};
        } else {
            String digits = String.join("", Arrays.copyOfRange(words, 1, words.length));
            numbers = digits.chars().map(c -> c - '0').toArray();
        }
        answer(names.get(words[0]), numbers);
    }
}
