/**
 * Every call with every edge of its arguments, all of them together, on looms in unlike states:
 * the answer has to be the model's, and so has what is there behind it (in the first places of
 * each row; behind alter and dye, for their many arguments, the cell itself and a sum alone).
 */
public final class EdgeTest {
    private static final int LOWEST = Looms.LOWEST;
    private static final int HIGHEST = Looms.HIGHEST;
    private static final int STATES = 7;
    private static final int PLACES = 4;
    private static final int[] SORTS = {LOWEST, -1, 0, 1, 2, 3, 4, 5, HIGHEST};
    private static final int[] EDGES = {LOWEST, -1, 0, 1, 2, 3, 63, 64, HIGHEST};
    private static final int[] LINES = {LOWEST, -1, 0, 1, 2, 39, 40, 41, HIGHEST};
    private static final int[] CELLS = {LOWEST, -1, 0, 1, 2, 63, 64, 65, HIGHEST};
    private static final int[] HOWS = {LOWEST, -1, 0, 1, 2, 3, 4, 5, 6, 7, 8, 9, HIGHEST};
    private static final int[] NUMBERS = {LOWEST, -800001, -800000, -799999, -65537, -65536, -32769, -32768, -129, -128,
        -1, 0, 1, 31, 32, 33, 127, 128, 255, 256, 32767, 32768, 65535, 65536, 799999, 800000, 800001, HIGHEST};
    private static final int[] COLOURS = {LOWEST, -1, 0, 1, 65534, 65535, 65536, HIGHEST};
    private static final int[] WHATS = {LOWEST, -1, 0, 1, 2, 3, 4, 5, HIGHEST};
    private static final Due DUE = new Due();

    private final int state;

    private EdgeTest(int state) {
        this.state = state;
    }

    public static void main(String[] args) {
        for (int state = 0; state < STATES; state++) {
            EdgeTest test = new EdgeTest(state);
            test.reels();
            test.reelCells();
            test.alters();
            test.cloth();
            test.clothCells();
            test.asked();
        }
        DUE.end("EdgeTest");
    }

    /** A new pair in this test's state: 0 is a new one, 6 has reels and a cloth as large as can be. */
    private Pair pair() {
        Pair x = new Pair(DUE, "state " + state);
        switch (state) {
            case 1:
                mountAll(x, 0);
                x.weave(0, 2);
                break;
            case 2:
                mountAll(x, 1);
                x.weave(2, 0);
                x.cut(1);
                break;
            case 3:
                mountAll(x, 2);
                for (int sort = 0; sort < 5; sort++) {
                    x.copy(sort);
                    x.off(sort);
                }
                x.weave(3, 3);
                x.cut(0);
                break;
            case 4:
                mountAll(x, 3);
                numbers(x, 1);
                x.weave(3, 3);
                x.pass(0, 7);
                x.cut(1);
                break;
            case 5:
                mountAll(x, 2);
                numbers(x, HIGHEST);
                x.weave(2, 3);
                x.dye(0, 0, 0, HIGHEST);
                x.dye(1, 0, 0, LOWEST);
                x.pass(1, 65535);
                break;
            case 6:
                mountAll(x, 64);
                numbers(x, -1);
                x.weave(40, 40);
                x.pass(2, 5);
                x.cut(1);
                x.cut(39);
                break;
            default:
                break;
        }
        return x;
    }

    private static void mountAll(Pair x, int cells) {
        for (int sort = 0; sort < 5; sort++) {
            x.mount(sort, cells);
        }
    }

    /** The ends of each sort's range, or numbers near them, in the first cells; spares like them. */
    private static void numbers(Pair x, int v) {
        int[] ends = {65535, 32767, 800000, 1, 127};
        for (int sort = 0; sort < 5; sort++) {
            x.set(sort, 0, ends[sort]);
            x.set(sort, 1, v);
            x.copy(sort);
            x.set(sort, 0, -ends[sort] - 1);
        }
    }

    private void reels() {
        for (int sort : SORTS) {
            for (int n : CELLS) {
                Pair x = pair();
                x.mount(sort, n);
                x.look(PLACES);
            }
            Pair off = pair();
            off.off(sort);
            off.look(PLACES);
            Pair swap = pair();
            swap.swap(sort);
            swap.look(PLACES);
            Pair copy = pair();
            copy.copy(sort);
            copy.look(PLACES);
            Pair size = pair();
            size.size(sort, false);
            size.size(sort, true);
            size.look(PLACES);
        }
    }

    private void reelCells() {
        for (int sort : SORTS) {
            for (int i : EDGES) {
                Pair get = pair();
                get.get(sort, i);
                get.look(PLACES);
                for (int v : NUMBERS) {
                    Pair set = pair();
                    set.set(sort, i, v);
                    set.get(sort, i);
                    set.look(PLACES);
                }
            }
        }
    }

    private void alters() {
        for (int sort : SORTS) {
            for (int i : EDGES) {
                for (int how : HOWS) {
                    for (int v : NUMBERS) {
                        Pair x = pair();
                        x.alter(sort, i, how, v);
                        x.get(sort, i);
                        x.sum(0);
                    }
                }
            }
        }
    }

    private void cloth() {
        for (int one : LINES) {
            for (int other : LINES) {
                Pair weave = pair();
                weave.weave(one, other);
                weave.look(PLACES);
                Pair seam = pair();
                seam.seam(one, other);
                seam.look(PLACES);
            }
            for (int colour : COLOURS) {
                Pair pass = pair();
                pass.pass(one, colour);
                pass.look(PLACES);
            }
            Pair cut = pair();
            cut.cut(one);
            cut.look(PLACES);
        }
    }

    private void clothCells() {
        for (int row : LINES) {
            for (int column : LINES) {
                Pair cell = pair();
                cell.cell(row, column);
                cell.look(PLACES);
                for (int how : HOWS) {
                    for (int v : NUMBERS) {
                        Pair x = pair();
                        x.dye(row, column, how, v);
                        x.cell(row, column);
                        x.sum(4);
                    }
                }
            }
        }
    }

    private void asked() {
        for (int what : WHATS) {
            Pair stop = pair();
            stop.stop(what);
            stop.look(PLACES);
            Pair sum = pair();
            sum.sum(what);
            sum.look(PLACES);
        }
    }
}
