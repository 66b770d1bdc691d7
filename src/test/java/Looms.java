/** Looms to begin a test with, and the names and numbers that the tests share. */
final class Looms {
    static final int THREADS = 0;
    static final int TURNS = 1;
    static final int PULLS = 2;
    static final int LIFTS = 3;
    static final int WEAR = 4;
    static final int CLOTH = 5;

    static final int LOWEST = Integer.MIN_VALUE;
    static final int HIGHEST = Integer.MAX_VALUE;

    static final Class<IllegalArgumentException> ARGUMENT = IllegalArgumentException.class;
    static final Class<IllegalStateException> STATE = IllegalStateException.class;
    static final Class<IndexOutOfBoundsException> INDEX = IndexOutOfBoundsException.class;
    static final Class<UnsupportedOperationException> UNSUPPORTED = UnsupportedOperationException.class;

    /** The rows of worked(): 0 and 2 are there, 1 is CUT, 3 is the first that there is not. */
    static final int CUT_ROW = 1;

    /**
     * Nothing is as in a new object: reels of 4 cells (TURNS of 3) with spares of 2, all with
     * numbers in them; a cloth of 3 rows and 5 columns with row 1 CUT; a pass that stopped, of
     * KIND 2, SORT 1 and column 3.
     */
    static ReelLoom worked() {
        ReelLoom x = new ReelLoom();
        for (int sort = 0; sort < 5; sort++) {
            numbered(x, sort, 2, 50);
            x.copy(sort);
            numbered(x, sort, sort == TURNS ? 3 : 4, 10);
        }
        x.weave(3, 5);
        for (int row = 0; row < 3; row++) {
            for (int column = 0; column < 5; column++) {
                x.dye(row, column, 0, 100000 * (row + 1) + column);
            }
        }
        x.pass(2, 77);
        x.cut(CUT_ROW);
        return x;
    }

    private static void numbered(ReelLoom x, int sort, int cells, int from) {
        x.mount(sort, cells);
        for (int i = 0; i < cells; i++) {
            x.set(sort, i, sort == LIFTS ? 1 - i % 2 : from + sort + 7 * i);
        }
    }

    /** As worked(), but that the reel of one sort is OFF and its spare one is there still. */
    static ReelLoom workedWithout(int sort) {
        ReelLoom x = worked();
        x.off(sort);
        return x;
    }

    /** As worked(), but that the reel of one sort has no cells. */
    static ReelLoom workedWithEmpty(int sort) {
        ReelLoom x = worked();
        x.mount(sort, 0);
        return x;
    }

    /** Reels that hold numbers, a spare reel beside them, but no cloth. */
    static ReelLoom clothless() {
        ReelLoom x = new ReelLoom();
        for (int sort = 0; sort < 5; sort++) {
            numbered(x, sort, 3, 20);
            x.copy(sort);
        }
        return x;
    }

    /** As worked(), but with another cloth, of noughts. */
    static ReelLoom workedOn(int rows, int columns) {
        ReelLoom x = worked();
        x.weave(rows, columns);
        return x;
    }

    /** A reel of so many cells that works, with the same number in each. */
    static ReelLoom reel(int sort, int cells, int number) {
        ReelLoom x = new ReelLoom();
        x.mount(sort, cells);
        for (int i = 0; i < cells; i++) {
            x.set(sort, i, number);
        }
        return x;
    }

    private Looms() {
    }
}
