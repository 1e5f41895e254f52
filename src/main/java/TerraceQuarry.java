import java.util.ArrayList;
import java.util.NoSuchElementException;

/** A model of an open quarry. ../shared/DOC.md says what each call does, as numbered promises. */
public final class TerraceQuarry {
    private static final int NOT_STORED = -1;

    private final Quarry quarry;
    private final Quarry beforeRun;
    private final Survey survey;
    private final History history;
    private final Program program;
    private final OutputLine line;
    private Quarry saved;
    private int errorPosition;
    private int failedCommand;

    public TerraceQuarry() {
        quarry = new Quarry();
        beforeRun = new Quarry();
        survey = new Survey();
        history = new History();
        program = new Program();
        line = new OutputLine();
        saved = null;
        errorPosition = NOT_STORED;
        failedCommand = NOT_STORED;
    }

    // ---- cells

    public int setStone(int row, int column, int stone)
            throws IndexOutOfBoundsException, IllegalArgumentException {
        refuse(quarry.stoneFault(row, column, stone));
        history.record(quarry);
        return quarry.changeStone(row, column, stone);
    }

    public int cut(int row, int column)
            throws IndexOutOfBoundsException, IllegalStateException, UnsupportedOperationException {
        refuse(quarry.cutFault(row, column));
        history.record(quarry);
        return quarry.cutCell(row, column);
    }

    public int fill(int row, int column)
            throws IndexOutOfBoundsException, IllegalStateException, UnsupportedOperationException {
        refuse(quarry.fillFault(row, column));
        history.record(quarry);
        return quarry.fillCell(row, column);
    }

    public boolean toggleLedge(int row, int column) throws IndexOutOfBoundsException {
        refuse(Grid.cellFault(row, column));
        history.record(quarry);
        return quarry.switchLedge(row, column);
    }

    public int setStepLimit(int limit) throws IllegalArgumentException, UnsupportedOperationException {
        refuse(quarry.limitFault(limit));
        history.record(quarry);
        return quarry.changeLimit(limit);
    }

    // ---- winches and the yard

    public int addWinch(int row, int column, int capacity, int reach)
            throws IndexOutOfBoundsException, IllegalArgumentException, IllegalStateException {
        refuse(quarry.winchFault(row, column, capacity, reach));
        history.record(quarry);
        return quarry.placeWinch(row, column, capacity, reach);
    }

    public int lift(int winch, int row, int column)
            throws IndexOutOfBoundsException, NoSuchElementException, IllegalStateException,
            UnsupportedOperationException {
        refuse(quarry.liftFault(winch, row, column));
        history.record(quarry);
        return quarry.liftBlock(row, column);
    }

    public int crush(int stone, int blocks) throws IllegalArgumentException, IllegalStateException {
        refuse(quarry.crushFault(stone, blocks));
        history.record(quarry);
        return quarry.crushBlocks(stone, blocks);
    }

    // ---- queries about cells

    public int height(int row, int column) throws IndexOutOfBoundsException {
        refuse(Grid.cellFault(row, column));
        return quarry.heightAt(Grid.cellAt(row, column));
    }

    public int stone(int row, int column) throws IndexOutOfBoundsException {
        refuse(Grid.cellFault(row, column));
        return quarry.stoneAt(Grid.cellAt(row, column));
    }

    public boolean isLedge(int row, int column) throws IndexOutOfBoundsException {
        refuse(Grid.cellFault(row, column));
        return quarry.hasLedgeAt(Grid.cellAt(row, column));
    }

    public int looseBlocks(int row, int column) throws IndexOutOfBoundsException {
        refuse(Grid.cellFault(row, column));
        return quarry.blocksAt(Grid.cellAt(row, column));
    }

    public int topBlock(int row, int column) throws IndexOutOfBoundsException, NoSuchElementException {
        refuse(quarry.topFault(row, column));
        return quarry.topStoneAt(Grid.cellAt(row, column));
    }

    public int steepestStep(int row, int column) throws IndexOutOfBoundsException {
        refuse(Grid.cellFault(row, column));
        return quarry.steepestAt(Grid.cellAt(row, column));
    }

    public boolean canCut(int row, int column) throws IndexOutOfBoundsException {
        refuse(Grid.cellFault(row, column));
        return quarry.cutFault(row, column) == Fault.NONE;
    }

    public int cuttableCells() {
        return quarry.countCuttable();
    }

    public int cellsAt(int height) throws IllegalArgumentException {
        refuse(Quarry.heightFault(height));
        return quarry.countAt(height);
    }

    public int cutsToLower(int row, int column, int height)
            throws IndexOutOfBoundsException, IllegalArgumentException {
        refuse(quarry.lowerFault(row, column, height));
        return quarry.cutsByDistance(Grid.cellAt(row, column), height);
    }

    public int cutsToLowerBySpreading(int row, int column, int height)
            throws IndexOutOfBoundsException, IllegalArgumentException {
        refuse(quarry.lowerFault(row, column, height));
        return survey.cutsBySpreading(quarry, Grid.cellAt(row, column), height);
    }

    // ---- queries about seams and footpaths

    public int seamSize(int row, int column) throws IndexOutOfBoundsException {
        refuse(Grid.cellFault(row, column));
        return survey.sizeOfSeam(quarry, Grid.cellAt(row, column));
    }

    public int seamVolume(int row, int column) throws IndexOutOfBoundsException {
        refuse(Grid.cellFault(row, column));
        return survey.volumeOfSeam(quarry, Grid.cellAt(row, column));
    }

    public int seamCount() {
        return survey.seamsBySearch(quarry);
    }

    public int seamCountByMerging() {
        return survey.seamsByMerging(quarry);
    }

    public int footpath(int row, int column, int otherRow, int otherColumn)
            throws IndexOutOfBoundsException, NoSuchElementException {
        refuse(Grid.cellFault(row, column));
        refuse(Grid.cellFault(otherRow, otherColumn));
        int length = survey.shortestPath(quarry, Grid.cellAt(row, column), Grid.cellAt(otherRow, otherColumn));
        if (length == Survey.NO_PATH) {
            throw new NoSuchElementException("there is no footpath");
        }
        return length;
    }

    // ---- queries about winches and the yard

    public int winchCount() {
        return quarry.countWinches();
    }

    public int liftableCells(int winch) throws IndexOutOfBoundsException {
        if (!quarry.hasWinch(winch)) {
            throw new IndexOutOfBoundsException("there is no such winch");
        }
        return quarry.countLiftable(winch);
    }

    public int bestWinch(int row, int column) throws IndexOutOfBoundsException, NoSuchElementException {
        refuse(Grid.cellFault(row, column));
        int best = quarry.leastAbleWinch(row, column);
        if (best == Quarry.NO_WINCH) {
            throw new NoSuchElementException("no winch could lift a block from the cell");
        }
        return best;
    }

    public int inYard(int stone) throws IllegalArgumentException {
        if (!Quarry.isStone(stone)) {
            throw new IllegalArgumentException("the stone is out of range");
        }
        return quarry.yardBlocks(stone);
    }

    public int yardWeight() {
        return quarry.weightOfYard();
    }

    public int rubble() {
        return quarry.loads();
    }

    // ---- totals

    public int stepLimit() {
        return quarry.limit();
    }

    public int cutTotal() {
        return quarry.cutsDone();
    }

    public long workTotal() {
        return quarry.workDone();
    }

    public double meanHeight() {
        return (double) quarry.heightSum() / (double) Grid.CELLS;
    }

    public float liftedShare() throws ArithmeticException {
        int cuts = quarry.cutsDone();
        if (cuts == 0) {
            throw new ArithmeticException("there were no cuts");
        }
        return (float) quarry.liftsDone() / (float) cuts;
    }

    public boolean isConsistent() {
        return quarry.stepsWithin(quarry.limit())
                && survey.seamsBySearch(quarry) == survey.seamsByMerging(quarry)
                && neededCutsAgree()
                && quarry.cutsDone() == quarry.liftsDone() + quarry.blockSum();
    }

    private boolean neededCutsAgree() {
        for (int cell = 0; cell < Grid.CELLS; cell++) {
            if (quarry.cutsByDistance(cell, 0) != survey.cutsBySpreading(quarry, cell, 0)) {
                return false;
            }
        }
        return true;
    }

    // ---- programs

    public int append(char character) throws IllegalStateException {
        if (program.isFull()) {
            throw new IllegalStateException("the text buffer is full");
        }
        return program.add(character);
    }

    public int run() throws IllegalArgumentException, UnsupportedOperationException {
        int wrongAt = program.read();
        program.empty();
        if (wrongAt != Program.ALL_RIGHT) {
            errorPosition = wrongAt;
            throw new IllegalArgumentException("the text is not a program");
        }
        beforeRun.copyFrom(quarry);
        int failed = program.carryOut(quarry);
        if (failed != Program.ALL_RIGHT) {
            quarry.copyFrom(beforeRun);
            failedCommand = failed;
            throw new UnsupportedOperationException("a command fails");
        }
        history.record(beforeRun);
        return program.commandCount();
    }

    public int errorPosition() throws NoSuchElementException {
        if (errorPosition == NOT_STORED) {
            throw new NoSuchElementException("no error position was stored");
        }
        return errorPosition;
    }

    public int failedCommand() throws NoSuchElementException {
        if (failedCommand == NOT_STORED) {
            throw new NoSuchElementException("no failed command was stored");
        }
        return failedCommand;
    }

    // ---- output

    public int writeRow(int row) throws IndexOutOfBoundsException {
        if (!Grid.hasRow(row)) {
            throw new IndexOutOfBoundsException("there is no such row");
        }
        return line.write(quarry, row);
    }

    public char outputAt(int index) throws IndexOutOfBoundsException {
        if (!line.hasSign(index)) {
            throw new IndexOutOfBoundsException("the output line has no such index");
        }
        return line.signAt(index);
    }

    // ---- undo and snapshot

    public int undo() throws IllegalStateException {
        if (history.isEmpty()) {
            throw new IllegalStateException("no call can be undone");
        }
        return history.stepBack(quarry);
    }

    public void save() {
        if (saved == null) {
            saved = new Quarry();
        }
        saved.copyFrom(quarry);
    }

    public void restore() throws IllegalStateException {
        if (saved == null) {
            throw new IllegalStateException("no state was saved");
        }
        quarry.copyFrom(saved);
        history.forget();
    }

    private static void refuse(Fault fault) {
        switch (fault) {
            case INDEX:
                throw new IndexOutOfBoundsException("there is no such cell or winch");
            case ARGUMENT:
                throw new IllegalArgumentException("a value is out of range");
            case MISSING:
                throw new NoSuchElementException("the cell has no loose block");
            case STATE:
                throw new IllegalStateException("the quarry does not allow it now");
            case UNSUPPORTED:
                throw new UnsupportedOperationException("the steps or the winch do not allow it");
            default:
                break;
        }
    }

    /** What keeps a call from being carried out: each fault stands for one exception. */
    private enum Fault {
        NONE, INDEX, ARGUMENT, MISSING, STATE, UNSUPPORTED
    }

    /** The cells, numbered row by row, and how they lie to each other. */
    private static final class Grid {
        static final int ROWS = 5;
        static final int COLUMNS = 6;
        static final int CELLS = ROWS * COLUMNS;
        static final int DIRECTIONS = 4;
        static final int NO_CELL = -1;

        private Grid() {
        }

        static boolean hasRow(int row) {
            return row >= 0 && row < ROWS;
        }

        static Fault cellFault(int row, int column) {
            boolean exists = hasRow(row) && column >= 0 && column < COLUMNS;
            return exists ? Fault.NONE : Fault.INDEX;
        }

        static int cellAt(int row, int column) {
            return row * COLUMNS + column;
        }

        static int rowOf(int cell) {
            return cell / COLUMNS;
        }

        static int columnOf(int cell) {
            return cell % COLUMNS;
        }

        static int distance(int cell, int other) {
            return Math.abs(rowOf(cell) - rowOf(other)) + Math.abs(columnOf(cell) - columnOf(other));
        }

        /** The last column of a row and the first one of the next row are no neighbours, though their numbers are. */
        static int neighbour(int cell, int direction) {
            int column = cell % COLUMNS;
            switch (direction) {
                case 0:
                    return cell >= COLUMNS ? cell - COLUMNS : NO_CELL;
                case 1:
                    return column > 0 ? cell - 1 : NO_CELL;
                case 2:
                    return column < COLUMNS - 1 ? cell + 1 : NO_CELL;
                case 3:
                    return cell < CELLS - COLUMNS ? cell + COLUMNS : NO_CELL;
                default:
                    return NO_CELL;
            }
        }
    }

    /** The whole state that undo, save and restore concern. */
    private static final class Quarry {
        static final int TOP_HEIGHT = 9;
        static final int STONES = 4;
        static final int MOST_BLOCKS = 3;
        static final int NO_WINCH = -1;
        private static final int FIRST_HEIGHT = 6;
        private static final int FIRST_RUBBLE = 5;
        private static final int LOADS_OF_BLOCK = 2;
        private static final int MOST_LIMIT = 4;
        private static final int MOST_WINCHES = 3;
        private static final int LEAST_CAPACITY = 2;
        private static final int MOST_CAPACITY = 9;
        private static final int MOST_REACH = 6;
        private static final int MOST_CRUSHED = 20;

        private final int[] heights;
        private final int[] stones;
        private final boolean[] ledges;
        private final int[] blockCounts;
        private final int[] blocks;
        private final int[] winchCells;
        private final int[] capacities;
        private final int[] reaches;
        private final int[] yard;
        private int winches;
        private int limit;
        private int rubble;
        private int cuts;
        private int lifts;
        private long work;

        Quarry() {
            heights = new int[Grid.CELLS];
            stones = new int[Grid.CELLS];
            ledges = new boolean[Grid.CELLS];
            blockCounts = new int[Grid.CELLS];
            blocks = new int[Grid.CELLS * MOST_BLOCKS];
            winchCells = new int[MOST_WINCHES];
            capacities = new int[MOST_WINCHES];
            reaches = new int[MOST_WINCHES];
            yard = new int[STONES];
            limit = 1;
            rubble = FIRST_RUBBLE;
            for (int cell = 0; cell < Grid.CELLS; cell++) {
                heights[cell] = FIRST_HEIGHT;
            }
        }

        void copyFrom(Quarry other) {
            System.arraycopy(other.heights, 0, heights, 0, Grid.CELLS);
            System.arraycopy(other.stones, 0, stones, 0, Grid.CELLS);
            System.arraycopy(other.blockCounts, 0, blockCounts, 0, Grid.CELLS);
            System.arraycopy(other.blocks, 0, blocks, 0, Grid.CELLS * MOST_BLOCKS);
            System.arraycopy(other.winchCells, 0, winchCells, 0, MOST_WINCHES);
            System.arraycopy(other.capacities, 0, capacities, 0, MOST_WINCHES);
            System.arraycopy(other.reaches, 0, reaches, 0, MOST_WINCHES);
            System.arraycopy(other.yard, 0, yard, 0, STONES);
            for (int cell = 0; cell < Grid.CELLS; cell++) {
                ledges[cell] = other.ledges[cell];
            }
            winches = other.winches;
            limit = other.limit;
            rubble = other.rubble;
            cuts = other.cuts;
            lifts = other.lifts;
            work = other.work;
        }

        // Faults are looked for in the order in which the document lists the exceptions, since the first counts.

        static boolean isStone(int stone) {
            return stone >= 0 && stone < STONES;
        }

        static Fault heightFault(int height) {
            return height >= 0 && height <= TOP_HEIGHT ? Fault.NONE : Fault.ARGUMENT;
        }

        Fault stoneFault(int row, int column, int stone) {
            if (Grid.cellFault(row, column) != Fault.NONE) {
                return Fault.INDEX;
            }
            return isStone(stone) ? Fault.NONE : Fault.ARGUMENT;
        }

        Fault cutFault(int row, int column) {
            if (Grid.cellFault(row, column) != Fault.NONE) {
                return Fault.INDEX;
            }
            int cell = Grid.cellAt(row, column);
            if (ledges[cell] || heights[cell] <= 0 || blockCounts[cell] >= MOST_BLOCKS) {
                return Fault.STATE;
            }
            return steepestFrom(cell, heights[cell] - 1) <= limit ? Fault.NONE : Fault.UNSUPPORTED;
        }

        Fault fillFault(int row, int column) {
            if (Grid.cellFault(row, column) != Fault.NONE) {
                return Fault.INDEX;
            }
            int cell = Grid.cellAt(row, column);
            if (ledges[cell] || heights[cell] >= TOP_HEIGHT || blockCounts[cell] > 0 || rubble <= 0) {
                return Fault.STATE;
            }
            return steepestFrom(cell, heights[cell] + 1) <= limit ? Fault.NONE : Fault.UNSUPPORTED;
        }

        Fault limitFault(int newLimit) {
            if (newLimit < 1 || newLimit > MOST_LIMIT) {
                return Fault.ARGUMENT;
            }
            return stepsWithin(newLimit) ? Fault.NONE : Fault.UNSUPPORTED;
        }

        Fault winchFault(int row, int column, int capacity, int reach) {
            if (Grid.cellFault(row, column) != Fault.NONE) {
                return Fault.INDEX;
            }
            if (capacity < LEAST_CAPACITY || capacity > MOST_CAPACITY || reach < 1 || reach > MOST_REACH) {
                return Fault.ARGUMENT;
            }
            boolean taken = winches >= MOST_WINCHES || hasWinchAt(Grid.cellAt(row, column));
            return taken ? Fault.STATE : Fault.NONE;
        }

        Fault topFault(int row, int column) {
            if (Grid.cellFault(row, column) != Fault.NONE) {
                return Fault.INDEX;
            }
            return blockCounts[Grid.cellAt(row, column)] > 0 ? Fault.NONE : Fault.MISSING;
        }

        Fault liftFault(int winch, int row, int column) {
            if (!hasWinch(winch)) {
                return Fault.INDEX;
            }
            Fault top = topFault(row, column);
            if (top != Fault.NONE) {
                return top;
            }
            int cell = Grid.cellAt(row, column);
            if (ledges[cell]) {
                return Fault.STATE;
            }
            boolean reached = Grid.distance(winchCells[winch], cell) <= reaches[winch];
            boolean light = weightOf(topStoneAt(cell)) <= capacities[winch];
            return reached && light ? Fault.NONE : Fault.UNSUPPORTED;
        }

        Fault crushFault(int stone, int number) {
            if (!isStone(stone) || number < 1 || number > MOST_CRUSHED) {
                return Fault.ARGUMENT;
            }
            return yard[stone] >= number ? Fault.NONE : Fault.STATE;
        }

        Fault lowerFault(int row, int column, int height) {
            if (Grid.cellFault(row, column) != Fault.NONE) {
                return Fault.INDEX;
            }
            boolean inRange = height >= 0 && height <= heights[Grid.cellAt(row, column)];
            return inRange ? Fault.NONE : Fault.ARGUMENT;
        }

        // A change tests nothing: each is called only after its fault was found to be none.

        int changeStone(int row, int column, int stone) {
            int cell = Grid.cellAt(row, column);
            int previous = stones[cell];
            stones[cell] = stone;
            return previous;
        }

        int cutCell(int row, int column) {
            int cell = Grid.cellAt(row, column);
            blocks[cell * MOST_BLOCKS + blockCounts[cell]] = stones[cell];
            blockCounts[cell]++;
            cuts++;
            heights[cell]--;
            return heights[cell];
        }

        int fillCell(int row, int column) {
            int cell = Grid.cellAt(row, column);
            rubble--;
            heights[cell]++;
            return heights[cell];
        }

        boolean switchLedge(int row, int column) {
            int cell = Grid.cellAt(row, column);
            ledges[cell] = !ledges[cell];
            return ledges[cell];
        }

        int changeLimit(int newLimit) {
            int previous = limit;
            limit = newLimit;
            return previous;
        }

        int placeWinch(int row, int column, int capacity, int reach) {
            int winch = winches;
            winchCells[winch] = Grid.cellAt(row, column);
            capacities[winch] = capacity;
            reaches[winch] = reach;
            winches++;
            return winch;
        }

        int liftBlock(int row, int column) {
            int cell = Grid.cellAt(row, column);
            int stone = topStoneAt(cell);
            int done = weightOf(stone) * (TOP_HEIGHT + 1 - heights[cell]);
            blockCounts[cell]--;
            yard[stone]++;
            lifts++;
            work += done;
            return done;
        }

        int crushBlocks(int stone, int number) {
            yard[stone] -= number;
            rubble += LOADS_OF_BLOCK * number;
            return rubble;
        }

        int heightAt(int cell) {
            return heights[cell];
        }

        int stoneAt(int cell) {
            return stones[cell];
        }

        boolean hasLedgeAt(int cell) {
            return ledges[cell];
        }

        int blocksAt(int cell) {
            return blockCounts[cell];
        }

        /** The cell must have a loose block. */
        int topStoneAt(int cell) {
            return blocks[cell * MOST_BLOCKS + blockCounts[cell] - 1];
        }

        int steepestAt(int cell) {
            return steepestFrom(cell, heights[cell]);
        }

        private int steepestFrom(int cell, int height) {
            int steepest = 0;
            for (int direction = 0; direction < Grid.DIRECTIONS; direction++) {
                int near = Grid.neighbour(cell, direction);
                if (near != Grid.NO_CELL) {
                    steepest = Math.max(steepest, Math.abs(height - heights[near]));
                }
            }
            return steepest;
        }

        boolean stepsWithin(int most) {
            for (int cell = 0; cell < Grid.CELLS; cell++) {
                if (steepestFrom(cell, heights[cell]) > most) {
                    return false;
                }
            }
            return true;
        }

        int countCuttable() {
            int count = 0;
            for (int cell = 0; cell < Grid.CELLS; cell++) {
                if (cutFault(Grid.rowOf(cell), Grid.columnOf(cell)) == Fault.NONE) {
                    count++;
                }
            }
            return count;
        }

        int countAt(int height) {
            int count = 0;
            for (int cell = 0; cell < Grid.CELLS; cell++) {
                if (heights[cell] == height) {
                    count++;
                }
            }
            return count;
        }

        int cutsByDistance(int target, int height) {
            int sum = 0;
            for (int cell = 0; cell < Grid.CELLS; cell++) {
                int allowed = height + limit * Grid.distance(target, cell);
                sum += Math.max(0, heights[cell] - allowed);
            }
            return sum;
        }

        int heightSum() {
            int sum = 0;
            for (int cell = 0; cell < Grid.CELLS; cell++) {
                sum += heights[cell];
            }
            return sum;
        }

        int blockSum() {
            int sum = 0;
            for (int cell = 0; cell < Grid.CELLS; cell++) {
                sum += blockCounts[cell];
            }
            return sum;
        }

        boolean hasWinch(int winch) {
            return winch >= 0 && winch < winches;
        }

        boolean hasWinchAt(int cell) {
            for (int winch = 0; winch < winches; winch++) {
                if (winchCells[winch] == cell) {
                    return true;
                }
            }
            return false;
        }

        int countWinches() {
            return winches;
        }

        int countLiftable(int winch) {
            int count = 0;
            for (int cell = 0; cell < Grid.CELLS; cell++) {
                if (liftFault(winch, Grid.rowOf(cell), Grid.columnOf(cell)) == Fault.NONE) {
                    count++;
                }
            }
            return count;
        }

        int leastAbleWinch(int row, int column) {
            int best = NO_WINCH;
            for (int winch = 0; winch < winches; winch++) {
                boolean able = liftFault(winch, row, column) == Fault.NONE;
                if (able && (best == NO_WINCH || capacities[winch] < capacities[best])) {
                    best = winch;
                }
            }
            return best;
        }

        int yardBlocks(int stone) {
            return yard[stone];
        }

        int weightOfYard() {
            int weight = 0;
            for (int stone = 0; stone < STONES; stone++) {
                weight += yard[stone] * weightOf(stone);
            }
            return weight;
        }

        private static int weightOf(int stone) {
            return 2 + stone;
        }

        int loads() {
            return rubble;
        }

        int limit() {
            return limit;
        }

        int cutsDone() {
            return cuts;
        }

        int liftsDone() {
            return lifts;
        }

        long workDone() {
            return work;
        }
    }

    /** Searches over the cells. Their rows are made once, since every call counts what it makes. */
    private static final class Survey {
        static final int NO_PATH = -1;

        private final int[] queue;
        private final int[] lowered;
        private final int[] labels;
        private final int[] lengths;
        private final boolean[] marked;

        Survey() {
            // Spreading enters a cell each time it is lowered, and a cell can be lowered once a height.
            queue = new int[Grid.CELLS * Quarry.TOP_HEIGHT + 1];
            lowered = new int[Grid.CELLS];
            labels = new int[Grid.CELLS];
            lengths = new int[Grid.CELLS];
            marked = new boolean[Grid.CELLS];
        }

        int cutsBySpreading(Quarry quarry, int target, int height) {
            for (int cell = 0; cell < Grid.CELLS; cell++) {
                lowered[cell] = quarry.heightAt(cell);
            }
            int cuts = lowered[target] - height;
            lowered[target] = height;
            queue[0] = target;
            int tail = 1;
            for (int head = 0; head < tail && head < queue.length; head++) {
                for (int direction = 0; direction < Grid.DIRECTIONS; direction++) {
                    int near = Grid.neighbour(queue[head], direction);
                    int excess = excessOver(near, lowered[queue[head]] + quarry.limit());
                    if (excess > 0 && tail < queue.length) {
                        lowered[near] -= excess;
                        cuts += excess;
                        queue[tail] = near;
                        tail++;
                    }
                }
            }
            return cuts;
        }

        private int excessOver(int cell, int allowed) {
            return cell == Grid.NO_CELL ? 0 : lowered[cell] - allowed;
        }

        int sizeOfSeam(Quarry quarry, int cell) {
            clearMarks();
            return collectSeam(quarry, cell);
        }

        int volumeOfSeam(Quarry quarry, int cell) {
            clearMarks();
            int size = collectSeam(quarry, cell);
            int volume = 0;
            for (int i = 0; i < size && i < queue.length; i++) {
                volume += quarry.heightAt(queue[i]);
            }
            return volume;
        }

        int seamsBySearch(Quarry quarry) {
            clearMarks();
            int seams = 0;
            for (int cell = 0; cell < Grid.CELLS; cell++) {
                if (collectSeam(quarry, cell) > 0) {
                    seams++;
                }
            }
            return seams;
        }

        private void clearMarks() {
            for (int cell = 0; cell < Grid.CELLS; cell++) {
                marked[cell] = false;
            }
        }

        /** Marks the seam of a cell and leaves its cells in the queue; 0 if it was marked before. */
        private int collectSeam(Quarry quarry, int start) {
            if (marked[start] || quarry.heightAt(start) == 0) {
                return 0;
            }
            marked[start] = true;
            queue[0] = start;
            int tail = 1;
            for (int head = 0; head < tail && head < queue.length; head++) {
                for (int direction = 0; direction < Grid.DIRECTIONS; direction++) {
                    int near = Grid.neighbour(queue[head], direction);
                    if (continuesSeam(quarry, queue[head], near) && !marked[near] && tail < queue.length) {
                        marked[near] = true;
                        queue[tail] = near;
                        tail++;
                    }
                }
            }
            return tail;
        }

        private static boolean continuesSeam(Quarry quarry, int cell, int near) {
            return near != Grid.NO_CELL
                    && quarry.heightAt(cell) > 0
                    && quarry.heightAt(near) > 0
                    && quarry.stoneAt(cell) == quarry.stoneAt(near);
        }

        int seamsByMerging(Quarry quarry) {
            for (int cell = 0; cell < Grid.CELLS; cell++) {
                labels[cell] = cell;
            }
            int seams = Grid.CELLS - quarry.countAt(0);
            for (int cell = 0; cell < Grid.CELLS; cell++) {
                for (int direction = 0; direction < Grid.DIRECTIONS; direction++) {
                    int near = Grid.neighbour(cell, direction);
                    if (continuesSeam(quarry, cell, near) && labels[cell] != labels[near]) {
                        relabel(labels[near], labels[cell]);
                        seams--;
                    }
                }
            }
            return seams;
        }

        private void relabel(int from, int to) {
            for (int cell = 0; cell < Grid.CELLS; cell++) {
                if (labels[cell] == from) {
                    labels[cell] = to;
                }
            }
        }

        int shortestPath(Quarry quarry, int start, int goal) {
            for (int cell = 0; cell < Grid.CELLS; cell++) {
                lengths[cell] = NO_PATH;
            }
            if (quarry.hasLedgeAt(start)) {
                return NO_PATH;
            }
            lengths[start] = 0;
            queue[0] = start;
            int tail = 1;
            for (int head = 0; head < tail && head < queue.length; head++) {
                for (int direction = 0; direction < Grid.DIRECTIONS; direction++) {
                    int near = Grid.neighbour(queue[head], direction);
                    if (canWalk(quarry, queue[head], near) && lengths[near] == NO_PATH && tail < queue.length) {
                        lengths[near] = lengths[queue[head]] + 1;
                        queue[tail] = near;
                        tail++;
                    }
                }
            }
            return lengths[goal];
        }

        private static boolean canWalk(Quarry quarry, int cell, int near) {
            return near != Grid.NO_CELL
                    && !quarry.hasLedgeAt(near)
                    && Math.abs(quarry.heightAt(cell) - quarry.heightAt(near)) <= 1;
        }
    }

    /** The states before the most recent changing calls, in a ring that forgets the oldest one. */
    private static final class History {
        private static final int MOST_STATES = 8;

        private final Quarry[] states;
        private int next;
        private int count;

        History() {
            states = new Quarry[MOST_STATES];
            next = 0;
            count = 0;
        }

        boolean isEmpty() {
            return count == 0;
        }

        void record(Quarry quarry) {
            Quarry state = states[next];
            if (state == null) {
                state = new Quarry();
                states[next] = state;
            }
            state.copyFrom(quarry);
            next = (next + 1) % MOST_STATES;
            count = Math.min(count + 1, MOST_STATES);
        }

        /** Must not be empty. Returns how many states are left. */
        int stepBack(Quarry quarry) {
            next = (next + MOST_STATES - 1) % MOST_STATES;
            count--;
            Quarry state = states[next];
            if (state != null) {
                quarry.copyFrom(state);
            }
            return count;
        }

        void forget() {
            count = 0;
        }
    }

    /** The commands of a program with their forms, in which # stands for a digit. */
    private enum Verb {
        STONE("stone ###"),
        CUT("cut ##"),
        FILL("fill ##"),
        LEDGE("ledge ##"),
        LIMIT("limit #"),
        WINCH("winch ## # #"),
        LIFT("lift # ##"),
        CRUSH("crush # #");

        private static final Verb[] ALL = values();

        private final String form;

        Verb(String form) {
            this.form = form;
        }

        static int total() {
            return ALL.length;
        }

        static Verb at(int index) {
            return ALL[index];
        }

        int length() {
            return form.length();
        }

        boolean takesDigitAt(int index) {
            return form.charAt(index) == '#';
        }

        boolean allows(int index, char character) {
            return takesDigitAt(index) ? isDigit(character) : form.charAt(index) == character;
        }

        static boolean isDigit(char character) {
            return character >= '0' && character <= '9';
        }
    }

    /** A command with its numbers in the order of the text. */
    private static final class Command {
        private static final int MOST_NUMBERS = 4;

        private final Verb verb;
        private final int[] numbers;
        private int count;

        Command(Verb verb) {
            this.verb = verb;
            numbers = new int[MOST_NUMBERS];
            count = 0;
        }

        void addNumber(int number) {
            if (count < MOST_NUMBERS) {
                numbers[count] = number;
                count++;
            }
        }

        /** Only the last number of crush may have a second digit. */
        void addDigitToLast(int digit) {
            if (count > 0) {
                numbers[count - 1] = numbers[count - 1] * 10 + digit;
            }
        }

        Fault faultIn(Quarry quarry) {
            switch (verb) {
                case STONE:
                    return quarry.stoneFault(numbers[0], numbers[1], numbers[2]);
                case CUT:
                    return quarry.cutFault(numbers[0], numbers[1]);
                case FILL:
                    return quarry.fillFault(numbers[0], numbers[1]);
                case LEDGE:
                    return Grid.cellFault(numbers[0], numbers[1]);
                case LIMIT:
                    return quarry.limitFault(numbers[0]);
                case WINCH:
                    return quarry.winchFault(numbers[0], numbers[1], numbers[2], numbers[3]);
                case LIFT:
                    return quarry.liftFault(numbers[0], numbers[1], numbers[2]);
                default:
                    return quarry.crushFault(numbers[0], numbers[1]);
            }
        }

        void change(Quarry quarry) {
            switch (verb) {
                case STONE:
                    quarry.changeStone(numbers[0], numbers[1], numbers[2]);
                    break;
                case CUT:
                    quarry.cutCell(numbers[0], numbers[1]);
                    break;
                case FILL:
                    quarry.fillCell(numbers[0], numbers[1]);
                    break;
                case LEDGE:
                    quarry.switchLedge(numbers[0], numbers[1]);
                    break;
                case LIMIT:
                    quarry.changeLimit(numbers[0]);
                    break;
                case WINCH:
                    quarry.placeWinch(numbers[0], numbers[1], numbers[2], numbers[3]);
                    break;
                case LIFT:
                    quarry.liftBlock(numbers[1], numbers[2]);
                    break;
                default:
                    quarry.crushBlocks(numbers[0], numbers[1]);
                    break;
            }
        }
    }

    /** The text buffer, and the commands that were read from it last. */
    private static final class Program {
        static final int ALL_RIGHT = -1;
        private static final int MOST_CHARACTERS = 60;

        private final char[] text;
        private final ArrayList<Command> commands;
        private int length;

        Program() {
            text = new char[MOST_CHARACTERS];
            commands = new ArrayList<Command>();
            length = 0;
        }

        boolean isFull() {
            return length >= MOST_CHARACTERS;
        }

        int add(char character) {
            text[length] = character;
            length++;
            return length;
        }

        void empty() {
            length = 0;
        }

        int commandCount() {
            return commands.size();
        }

        /** Reads the text into commands. Returns the error position, or ALL_RIGHT for a program. */
        int read() {
            commands.clear();
            int start = 0;
            for (int count = 0; count <= MOST_CHARACTERS; count++) {
                Verb verb = verbAt(start);
                if (verb == null) {
                    return start + longestMatch(start);
                }
                int end = readCommand(verb, start);
                if (end >= length) {
                    return ALL_RIGHT;
                }
                if (text[end] != ';') {
                    return end;
                }
                start = end + 1;
            }
            return length;
        }

        /** No form begins with another form, so that at most one of them matches. */
        private Verb verbAt(int start) {
            for (int i = 0; i < Verb.total(); i++) {
                Verb verb = Verb.at(i);
                if (matchLength(verb, start) == verb.length()) {
                    return verb;
                }
            }
            return null;
        }

        private int longestMatch(int start) {
            int longest = 0;
            for (int i = 0; i < Verb.total(); i++) {
                longest = Math.max(longest, matchLength(Verb.at(i), start));
            }
            return longest;
        }

        private int matchLength(Verb verb, int start) {
            int matched = 0;
            while (matched < verb.length() && start + matched < length
                    && verb.allows(matched, text[start + matched])) {
                matched++;
            }
            return matched;
        }

        /** Returns the index behind the command. */
        private int readCommand(Verb verb, int start) {
            Command command = new Command(verb);
            commands.add(command);
            int end = start + verb.length();
            for (int index = 0; index < verb.length(); index++) {
                if (verb.takesDigitAt(index)) {
                    command.addNumber(text[start + index] - '0');
                }
            }
            if (verb == Verb.CRUSH && end < length && Verb.isDigit(text[end])) {
                command.addDigitToLast(text[end] - '0');
                end++;
            }
            return end;
        }

        /** Returns the index of the first command that fails, or ALL_RIGHT. */
        int carryOut(Quarry quarry) {
            for (int i = 0; i < commands.size(); i++) {
                Command command = commands.get(i);
                if (command.faultIn(quarry) != Fault.NONE) {
                    return i;
                }
                command.change(quarry);
            }
            return ALL_RIGHT;
        }
    }

    private static final class OutputLine {
        private static final int MOST_SIGNS_OF_CELL = 4 + Quarry.MOST_BLOCKS;

        private final char[] signs;
        private int length;

        OutputLine() {
            signs = new char[Grid.COLUMNS * (MOST_SIGNS_OF_CELL + 1)];
            length = 0;
        }

        boolean hasSign(int index) {
            return index >= 0 && index < length;
        }

        char signAt(int index) {
            return signs[index];
        }

        int write(Quarry quarry, int row) {
            length = 0;
            for (int column = 0; column < Grid.COLUMNS; column++) {
                if (column > 0) {
                    put(' ');
                }
                putCell(quarry, Grid.cellAt(row, column));
            }
            return length;
        }

        private void putCell(Quarry quarry, int cell) {
            put((char) ('0' + quarry.heightAt(cell)));
            put((char) ('a' + quarry.stoneAt(cell)));
            if (quarry.hasLedgeAt(cell)) {
                put('=');
            }
            if (quarry.hasWinchAt(cell)) {
                put('^');
            }
            for (int block = 0; block < quarry.blocksAt(cell); block++) {
                put('.');
            }
        }

        private void put(char sign) {
            if (length < signs.length) {
                signs[length] = sign;
                length++;
            }
        }
    }
}
