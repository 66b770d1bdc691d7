/**
 * A second loom, written apart from ReelLoom and in another way: reels and rows that are null
 * when they are not there, ranges as whole numbers modulo their width. Its calls answer by text.
 */
final class Model {
    private static final String ARGUMENT = Due.nameOf(IllegalArgumentException.class);
    private static final String STATE = Due.nameOf(IllegalStateException.class);
    private static final String INDEX = Due.nameOf(IndexOutOfBoundsException.class);
    private static final String UNSUPPORTED = Due.nameOf(UnsupportedOperationException.class);
    private static final int[] LOWEST = {0, -32768, -800000, 0, -128};
    private static final int[] HIGHEST = {65535, 32767, 800000, 1, 127};

    private final int[][] works = new int[5][];
    private final int[][] spares = new int[5][];
    private int[][] cloth = null;
    private int width = 0;
    private int[] latest = {0, 0, 0};

    private static boolean within(int number, int lowest, int highest) {
        return lowest <= number && number <= highest;
    }

    private static String length(int[] reel) {
        return reel == null ? "-1" : "" + reel.length;
    }

    private static int inRange(int sort, long v) {
        if (sort == 2) {
            return (int) (v < LOWEST[2] ? LOWEST[2] : v > HIGHEST[2] ? HIGHEST[2] : v);
        }
        if (sort == 3) {
            return v != 0 ? 1 : 0;
        }
        long width = (long) HIGHEST[sort] - LOWEST[sort] + 1;
        return (int) (Math.floorMod(v - LOWEST[sort], width) + LOWEST[sort]);
    }

    private static int operated(int a, int how, int v) {
        int by = Math.floorMod(v, 32);
        long unsigned = a & 0xFFFFFFFFL;
        int[] results = {(int) ((long) a + v), (int) ((long) a - v), (int) ((long) a * v), ~(~a | ~v), ~(~a & ~v),
            (a | v) & ~(a & v), (int) (unsigned << by), (int) Math.floorDiv((long) a, 1L << by), (int) (unsigned >> by)};
        return results[how];
    }

    String mount(int sort, int n) {
        if (!within(sort, 0, 4) || !within(n, 0, 64)) {
            return ARGUMENT;
        }
        String had = length(works[sort]);
        works[sort] = new int[n];
        return had;
    }

    String off(int sort) {
        if (!within(sort, 0, 4)) {
            return ARGUMENT;
        }
        if (works[sort] == null) {
            return STATE;
        }
        String had = length(works[sort]);
        works[sort] = null;
        return had;
    }

    String swap(int sort) {
        if (!within(sort, 0, 4)) {
            return ARGUMENT;
        }
        int[] worked = works[sort];
        works[sort] = spares[sort];
        spares[sort] = worked;
        return length(works[sort]);
    }

    String copy(int sort) {
        if (!within(sort, 0, 4)) {
            return ARGUMENT;
        }
        if (works[sort] == null) {
            return STATE;
        }
        spares[sort] = works[sort].clone();
        return length(spares[sort]);
    }

    String size(int sort, boolean spare) {
        return !within(sort, 0, 4) ? ARGUMENT : length(spare ? spares[sort] : works[sort]);
    }

    private String wrongPlace(int sort, int i) {
        if (!within(sort, 0, 4)) {
            return ARGUMENT;
        }
        if (works[sort] == null) {
            return STATE;
        }
        return within(i, 0, works[sort].length - 1) ? null : INDEX;
    }

    String get(int sort, int i) {
        String wrong = wrongPlace(sort, i);
        return wrong != null ? wrong : "" + works[sort][i];
    }

    String set(int sort, int i, int v) {
        String wrong = wrongPlace(sort, i);
        return wrong != null ? wrong : "" + (works[sort][i] = inRange(sort, v));
    }

    String alter(int sort, int i, int how, int v) {
        int first = sort == 3 ? 3 : 0;
        int last = sort == 2 ? 1 : sort == 3 ? 5 : 8;
        if (!within(how, first, last) || sort == 2 && !within(v, -800000, 800000)) {
            return ARGUMENT;
        }
        String wrong = wrongPlace(sort, i);
        if (wrong != null) {
            return wrong;
        }
        int operand = sort == 3 && v != 0 ? 1 : v;
        return "" + (works[sort][i] = inRange(sort, operated(works[sort][i], how, operand)));
    }

    String weave(int rows, int columns) {
        if (rows > 40 || columns > 40) {
            return UNSUPPORTED;
        }
        if (rows < 0 || columns < 0) {
            return ARGUMENT;
        }
        cloth = new int[rows][columns];
        width = columns;
        return "" + rows * columns;
    }

    String pass(int row, int colour) {
        if (!within(colour, 0, 65535)) {
            return ARGUMENT;
        }
        if (cloth == null) {
            return STATE;
        }
        if (!within(row, 0, cloth.length - 1)) {
            return INDEX;
        }
        for (int c = 0; c < width; c++) {
            int[] stop = stopInColumn(row, c, colour);
            if (stop != null) {
                latest = stop;
                return "" + c;
            }
        }
        latest = new int[] {0, 0, width};
        return "" + width;
    }

    private int[] missing(int sort, int c) {
        int[] reel = works[sort];
        return reel == null ? new int[] {1, sort, c} : c >= reel.length ? new int[] {2, sort, c} : null;
    }

    private int[] stopInColumn(int row, int c, int colour) {
        boolean lifted = false;
        for (int step = 0; step < 6; step++) {
            int sort = new int[] {3, 0, 5, 1, 2, 4}[step];
            boolean wanted = lifted || sort != 0 && sort != 4;
            if (!wanted) {
                continue;
            }
            int[] stop = sort != 5 ? missing(sort, c) : cloth[row] == null ? new int[] {1, 5, c} : null;
            if (stop != null) {
                return stop;
            }
            if (sort == 3) {
                lifted = works[3][c] == 1;
            } else if (sort == 5) {
                cloth[row][c] = lifted ? works[0][c] : colour;
            } else if (sort != 0) {
                int more = sort != 2 ? 1 : lifted ? 2 : -1;
                works[sort][c] = inRange(sort, works[sort][c] + more);
            }
        }
        return null;
    }

    String stop(int what) {
        return within(what, 0, 2) ? "" + latest[what] : ARGUMENT;
    }

    private String wrongRow(int row) {
        if (cloth == null) {
            return STATE;
        }
        if (!within(row, 0, cloth.length - 1)) {
            return INDEX;
        }
        return cloth[row] == null ? STATE : null;
    }

    String cut(int row) {
        String wrong = wrongRow(row);
        if (wrong != null) {
            return wrong;
        }
        cloth[row] = null;
        return "" + width;
    }

    String cell(int row, int column) {
        String wrong = wrongRow(row);
        if (wrong != null) {
            return wrong;
        }
        return within(column, 0, width - 1) ? "" + cloth[row][column] : INDEX;
    }

    String dye(int row, int column, int how, int v) {
        if (!within(how, 0, 8)) {
            return ARGUMENT;
        }
        String had = cell(row, column);
        if (had.startsWith("throws.")) {
            return had;
        }
        return "" + (cloth[row][column] = operated(cloth[row][column], how, v));
    }

    String seam(int one, int other) {
        String wrong = wrongRow(one) != null ? wrongRow(one) : wrongRow(other);
        if (wrong != null) {
            return wrong;
        }
        int same = 0;
        for (int c = 0; c < width; c++) {
            same += cloth[one][c] == cloth[other][c] ? 1 : 0;
        }
        return "" + same;
    }

    String sum(int what) {
        if (!within(what, 0, 4)) {
            return ARGUMENT;
        }
        if (what < 2) {
            return "" + sumOfReels(what);
        }
        if (cloth == null) {
            return "-1";
        }
        int gone = 0;
        for (int[] row : cloth) {
            gone += row == null ? 1 : 0;
        }
        return "" + new int[] {cloth.length, width, gone}[what - 2];
    }

    private int sumOfReels(int what) {
        int total = 0;
        int none = 0;
        for (int sort = 0; sort < 5; sort++) {
            if (works[sort] == null) {
                none++;
                continue;
            }
            for (int has : works[sort]) {
                total += (sort + 1) * has;
            }
        }
        return what == 0 ? total : none;
    }
}
