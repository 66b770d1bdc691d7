import java.util.Arrays;

/** A loom of five reels, each with a spare one, and a cloth that is woven pass by pass. */
public final class ReelLoom {
    private static final int THREADS = 0;
    private static final int TURNS = 1;
    private static final int PULLS = 2;
    private static final int LIFTS = 3;
    private static final int WEAR = 4;
    private static final int SORTS = 5;

    private static final int MOST_CELLS = 64;
    private static final int MOST_LINES = 40;
    private static final int MOST_COLOUR = 65535;
    private static final int FURTHEST_PULL = 800000;
    private static final int LAST_HOW = 8;

    /** The length of a reel that is OFF: what the document answers for one. */
    private static final int OFF = -1;
    /** The rows and columns of a cloth that is not there: what the document answers then. */
    private static final int NO_CLOTH = -1;

    private static final int NOT_STOPPED = 0;
    private static final int STOPPED_BY_NONE = 1;
    private static final int STOPPED_BY_SHORT = 2;
    private static final int SORT_OF_CLOTH = 5;

    // All rows are made once, at their greatest length, and used again by each new reel and
    // cloth: so no call but the constructor takes room.
    private final int[] workingCells;
    private final int[] workingLength;
    private final int[] spareCells;
    private final int[] spareLength;

    private final int[] clothCells;
    private final boolean[] rowIsCut;
    private int rows;
    private int columns;

    private int stopKind;
    private int stopSort;
    private int stopColumn;

    public ReelLoom() {
        workingCells = new int[SORTS * MOST_CELLS];
        workingLength = new int[SORTS];
        spareCells = new int[SORTS * MOST_CELLS];
        spareLength = new int[SORTS];
        Arrays.fill(workingLength, OFF);
        Arrays.fill(spareLength, OFF);
        clothCells = new int[MOST_LINES * MOST_LINES];
        rowIsCut = new boolean[MOST_LINES];
        rows = NO_CLOTH;
        columns = NO_CLOTH;
        stopKind = NOT_STOPPED;
        stopSort = 0;
        stopColumn = 0;
    }

    public int mount(int sort, int n) throws IllegalArgumentException {
        requireSort(sort);
        if (n < 0 || n > MOST_CELLS) {
            throw new IllegalArgumentException("a reel has 0 to 64 cells");
        }
        int lengthBefore = workingLength[sort];
        for (int i = 0; i < n; i++) {
            workingCells[reelIndex(sort, i)] = 0;
        }
        workingLength[sort] = n;
        return lengthBefore;
    }

    public int off(int sort) throws IllegalArgumentException, IllegalStateException {
        requireSort(sort);
        requireMounted(sort);
        int lengthBefore = workingLength[sort];
        workingLength[sort] = OFF;
        return lengthBefore;
    }

    public int swap(int sort) throws IllegalArgumentException {
        requireSort(sort);
        for (int i = 0; i < MOST_CELLS; i++) {
            int index = reelIndex(sort, i);
            int worked = workingCells[index];
            workingCells[index] = spareCells[index];
            spareCells[index] = worked;
        }
        int lengthBefore = workingLength[sort];
        workingLength[sort] = spareLength[sort];
        spareLength[sort] = lengthBefore;
        return workingLength[sort];
    }

    public int copy(int sort) throws IllegalArgumentException, IllegalStateException {
        requireSort(sort);
        requireMounted(sort);
        int length = workingLength[sort];
        for (int i = 0; i < length; i++) {
            int index = reelIndex(sort, i);
            spareCells[index] = workingCells[index];
        }
        spareLength[sort] = length;
        return length;
    }

    public int size(int sort, boolean spare) throws IllegalArgumentException {
        requireSort(sort);
        return spare ? spareLength[sort] : workingLength[sort];
    }

    public int get(int sort, int i)
            throws IllegalArgumentException, IllegalStateException, IndexOutOfBoundsException {
        requireSort(sort);
        requireMounted(sort);
        requireCell(sort, i);
        return workingCells[reelIndex(sort, i)];
    }

    public int set(int sort, int i, int v)
            throws IllegalArgumentException, IllegalStateException, IndexOutOfBoundsException {
        requireSort(sort);
        requireMounted(sort);
        requireCell(sort, i);
        return put(sort, i, v);
    }

    public int alter(int sort, int i, int how, int v)
            throws IllegalArgumentException, IllegalStateException, IndexOutOfBoundsException {
        requireSort(sort);
        requireAlterable(sort, how, v);
        requireMounted(sort);
        requireCell(sort, i);
        int operand = sort == LIFTS ? fitted(LIFTS, v) : v;
        return put(sort, i, combined(workingCells[reelIndex(sort, i)], how, operand));
    }

    public int weave(int rows, int columns)
            throws UnsupportedOperationException, IllegalArgumentException {
        if (rows > MOST_LINES || columns > MOST_LINES) {
            throw new UnsupportedOperationException("a cloth has at most 40 rows and columns");
        }
        if (rows < 0 || columns < 0) {
            throw new IllegalArgumentException("a cloth has no less than 0 rows and columns");
        }
        this.rows = rows;
        this.columns = columns;
        Arrays.fill(clothCells, 0);
        for (int row = 0; row < rows; row++) {
            rowIsCut[row] = false;
        }
        return rows * columns;
    }

    public int pass(int row, int colour)
            throws IllegalArgumentException, IllegalStateException, IndexOutOfBoundsException {
        if (colour < 0 || colour > MOST_COLOUR) {
            throw new IllegalArgumentException("a colour is 0 to 65535");
        }
        requireCloth();
        requireRow(row);
        stopKind = NOT_STOPPED;
        stopSort = 0;
        int column = 0;
        while (column < columns && passesColumn(row, column, colour)) {
            column++;
        }
        stopColumn = column;
        return column;
    }

    public int stop(int what) throws IllegalArgumentException {
        switch (what) {
            case 0:
                return stopKind;
            case 1:
                return stopSort;
            case 2:
                return stopColumn;
            default:
                throw new IllegalArgumentException("a stop is asked for 0 to 2");
        }
    }

    public int cut(int row) throws IllegalStateException, IndexOutOfBoundsException {
        requireCloth();
        requireRow(row);
        requireUncut(row);
        rowIsCut[row] = true;
        return columns;
    }

    public int cell(int row, int column) throws IllegalStateException, IndexOutOfBoundsException {
        requireClothCell(row, column);
        return clothCells[clothIndex(row, column)];
    }

    public int dye(int row, int column, int how, int v)
            throws IllegalArgumentException, IllegalStateException, IndexOutOfBoundsException {
        requireHow(how);
        requireClothCell(row, column);
        int index = clothIndex(row, column);
        clothCells[index] = combined(clothCells[index], how, v);
        return clothCells[index];
    }

    public int seam(int one, int other) throws IllegalStateException, IndexOutOfBoundsException {
        requireCloth();
        requireRow(one);
        requireUncut(one);
        requireRow(other);
        requireUncut(other);
        int same = 0;
        for (int column = 0; column < columns; column++) {
            if (clothCells[clothIndex(one, column)] == clothCells[clothIndex(other, column)]) {
                same++;
            }
        }
        return same;
    }

    public int sum(int what) throws IllegalArgumentException {
        switch (what) {
            case 0:
                return weightedCells();
            case 1:
                return reelsOff();
            case 2:
                return rows;
            case 3:
                return columns;
            case 4:
                return rowsCut();
            default:
                throw new IllegalArgumentException("a sum is asked for 0 to 4");
        }
    }

    private static void requireSort(int sort) {
        if (sort < 0 || sort >= SORTS) {
            throw new IllegalArgumentException("there is no such sort");
        }
    }

    private static void requireHow(int how) {
        if (how < 0 || how > LAST_HOW) {
            throw new IllegalArgumentException("there is no such how");
        }
    }

    private static void requireAlterable(int sort, int how, int v) {
        requireHow(how);
        if (sort == PULLS && how > 1) {
            throw new IllegalArgumentException("pulls are altered by how 0 and 1 alone");
        }
        if (sort == PULLS && (v < -FURTHEST_PULL || v > FURTHEST_PULL)) {
            throw new IllegalArgumentException("pulls are altered by at most 800000");
        }
        if (sort == LIFTS && (how < 3 || how > 5)) {
            throw new IllegalArgumentException("lifts are altered by how 3, 4 and 5 alone");
        }
    }

    private void requireMounted(int sort) {
        if (workingLength[sort] == OFF) {
            throw new IllegalStateException("the reel is off");
        }
    }

    private void requireCell(int sort, int i) {
        if (i < 0 || i >= workingLength[sort]) {
            throw new IndexOutOfBoundsException("the reel has no such cell");
        }
    }

    private void requireCloth() {
        if (rows == NO_CLOTH) {
            throw new IllegalStateException("there is no cloth");
        }
    }

    private void requireRow(int row) {
        if (row < 0 || row >= rows) {
            throw new IndexOutOfBoundsException("the cloth has no such row");
        }
    }

    private void requireUncut(int row) {
        if (rowIsCut[row]) {
            throw new IllegalStateException("the row is cut");
        }
    }

    private void requireClothCell(int row, int column) {
        requireCloth();
        requireRow(row);
        requireUncut(row);
        if (column < 0 || column >= columns) {
            throw new IndexOutOfBoundsException("the cloth has no such column");
        }
    }

    private static int reelIndex(int sort, int i) {
        return sort * MOST_CELLS + i;
    }

    private static int clothIndex(int row, int column) {
        return row * MOST_LINES + column;
    }

    /** What a cell of the sort has once v is put into it. */
    private static int fitted(int sort, int v) {
        switch (sort) {
            case THREADS:
                return v & 0xFFFF;
            case TURNS:
                return (short) v;
            case PULLS:
                return Math.max(-FURTHEST_PULL, Math.min(FURTHEST_PULL, v));
            case LIFTS:
                return v == 0 ? 0 : 1;
            default:
                return (byte) v;
        }
    }

    private int put(int sort, int i, int v) {
        int has = fitted(sort, v);
        workingCells[reelIndex(sort, i)] = has;
        return has;
    }

    private static int combined(int a, int how, int v) {
        switch (how) {
            case 0:
                return a + v;
            case 1:
                return a - v;
            case 2:
                return a * v;
            case 3:
                return a & v;
            case 4:
                return a | v;
            case 5:
                return a ^ v;
            case 6:
                return a << v;
            case 7:
                return a >> v;
            default:
                return a >>> v;
        }
    }

    /**
     * Does one column of a pass, step by step: a reel is looked at only when its step comes,
     * as all that was done ahead of a stop has to stay. False: the pass stopped in it.
     */
    private boolean passesColumn(int row, int column, int colour) {
        if (stopsAtReel(LIFTS, column)) {
            return false;
        }
        boolean lifted = workingCells[reelIndex(LIFTS, column)] == 1;
        if (lifted && stopsAtReel(THREADS, column)) {
            return false;
        }
        if (stopsAtRow(row)) {
            return false;
        }
        clothCells[clothIndex(row, column)] =
                lifted ? workingCells[reelIndex(THREADS, column)] : colour;
        return addsInPass(TURNS, column, 1)
                && addsInPass(PULLS, column, lifted ? 2 : -1)
                && (!lifted || addsInPass(WEAR, column, 1));
    }

    private boolean addsInPass(int sort, int column, int more) {
        if (stopsAtReel(sort, column)) {
            return false;
        }
        put(sort, column, workingCells[reelIndex(sort, column)] + more);
        return true;
    }

    private boolean stopsAtReel(int sort, int column) {
        if (column < workingLength[sort]) {
            return false;
        }
        stopKind = workingLength[sort] == OFF ? STOPPED_BY_NONE : STOPPED_BY_SHORT;
        stopSort = sort;
        return true;
    }

    private boolean stopsAtRow(int row) {
        if (!rowIsCut[row]) {
            return false;
        }
        stopKind = STOPPED_BY_NONE;
        stopSort = SORT_OF_CLOTH;
        return true;
    }

    private int weightedCells() {
        int total = 0;
        for (int sort = 0; sort < SORTS; sort++) {
            for (int i = 0; i < workingLength[sort]; i++) {
                total += (sort + 1) * workingCells[reelIndex(sort, i)];
            }
        }
        return total;
    }

    private int reelsOff() {
        int count = 0;
        for (int sort = 0; sort < SORTS; sort++) {
            if (workingLength[sort] == OFF) {
                count++;
            }
        }
        return count;
    }

    private int rowsCut() {
        if (rows == NO_CLOTH) {
            return NO_CLOTH;
        }
        int count = 0;
        for (int row = 0; row < rows; row++) {
            if (rowIsCut[row]) {
                count++;
            }
        }
        return count;
    }
}
