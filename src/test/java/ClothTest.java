/** Promises 10 to 17: the cloth, the pass, and the sums. */
public final class ClothTest {
    private static final Due DUE = new Due();
    private static final Class<IllegalArgumentException> ARGUMENT = IllegalArgumentException.class;
    private static final Class<IllegalStateException> STATE = IllegalStateException.class;
    private static final Class<IndexOutOfBoundsException> INDEX = IndexOutOfBoundsException.class;
    private static final Class<UnsupportedOperationException> UNSUPPORTED = UnsupportedOperationException.class;
    private static final int THREADS = 0;
    private static final int TURNS = 1;
    private static final int PULLS = 2;
    private static final int LIFTS = 3;
    private static final int WEAR = 4;
    private static final int CLOTH = 5;
    private static final int[] NO_ROWS = {-1, 2, 40, Integer.MIN_VALUE, Integer.MAX_VALUE};

    public static void main(String[] args) {
        weaveMakesANewCloth();
        weaveRefuses();
        passGoesThroughAllColumns();
        passFitsWhatItPuts();
        passStopsAtEachReel();
        passStopsAtACutRow();
        passLooksOnlyAtWhatItNeeds();
        passWithoutColumns();
        passRefuses();
        stopTellsTheLatestPass();
        cutTakesOneRow();
        cellRefuses();
        dyeCombines();
        dyeRefuses();
        seamCounts();
        seamRefuses();
        sumWeighsTheCells();
        sumCounts();
        refusedCallsChangeNothing();
        DUE.end("ClothTest");
    }

    private static void weaveMakesANewCloth() {
        ReelLoom x = new ReelLoom();
        DUE.answers("weave(2, 3)", 6, () -> x.weave(2, 3));
        DUE.answers("cell(1, 2)", 0, () -> x.cell(1, 2));
        x.dye(1, 2, 0, 9);
        x.cut(0);
        DUE.answers("weave(40, 40)", 1600, () -> x.weave(40, 40));
        DUE.answers("cell(1, 2) anew", 0, () -> x.cell(1, 2));
        DUE.answers("cell(0, 0) is not cut", 0, () -> x.cell(0, 0));
        DUE.answers("no row is cut", 0, () -> x.sum(4));
        x.dye(39, 39, 0, 5);
        DUE.answers("cell(39, 39)", 5, () -> x.cell(39, 39));
        x.cut(39);
        DUE.answers("weave(1, 1)", 1, () -> x.weave(1, 1));
        DUE.refuses("cell(39, 39) is gone", INDEX, () -> x.cell(39, 39));
        x.weave(40, 40);
        DUE.answers("cell(39, 39) anew", 0, () -> x.cell(39, 39));
        DUE.answers("weave(0, 40)", 0, () -> x.weave(0, 40));
        DUE.refuses("a cloth without rows", INDEX, () -> x.cell(0, 0));
        DUE.answers("its columns", 40, () -> x.sum(3));
        DUE.answers("weave(40, 0)", 0, () -> x.weave(40, 0));
        DUE.refuses("a cloth without columns", INDEX, () -> x.cell(39, 0));
        DUE.answers("its rows", 40, () -> x.sum(2));
        DUE.answers("weave(0, 0)", 0, () -> x.weave(0, 0));
        DUE.answers("a cloth without both", 0, () -> x.sum(2));
    }

    private static void weaveRefuses() {
        ReelLoom x = new ReelLoom();
        DUE.refuses("weave(-1, 1) without a cloth", ARGUMENT, () -> x.weave(-1, 1));
        DUE.answers("there is none still", -1, () -> x.sum(2));
        x.weave(1, 2);
        x.dye(0, 1, 0, 8);
        int highest = Integer.MAX_VALUE;
        int lowest = Integer.MIN_VALUE;
        for (int[] size : new int[][] {{41, 1}, {1, 41}, {41, 41}, {41, -1}, {-1, 41}, {highest, lowest}, {0, highest}}) {
            DUE.refuses("weave(" + size[0] + ", " + size[1] + ")", UNSUPPORTED, () -> x.weave(size[0], size[1]));
        }
        for (int[] size : new int[][] {{-1, 1}, {1, -1}, {-1, -1}, {40, -1}, {-1, 40}, {lowest, 0}, {0, lowest}}) {
            DUE.refuses("weave(" + size[0] + ", " + size[1] + ")", ARGUMENT, () -> x.weave(size[0], size[1]));
        }
        DUE.answers("the cloth stays", 8, () -> x.cell(0, 1));
        DUE.answers("its rows stay", 1, () -> x.sum(2));
        DUE.answers("its columns stay", 2, () -> x.sum(3));
    }

    /** Reels of so many cells, every one lifted, and a cloth of two rows and three columns. */
    private static ReelLoom lifted(int cells) {
        ReelLoom x = new ReelLoom();
        for (int sort = 0; sort < 5; sort++) {
            x.mount(sort, cells);
        }
        for (int i = 0; i < cells; i++) {
            x.set(LIFTS, i, 1);
            x.set(THREADS, i, 101 + i);
        }
        x.weave(2, 3);
        return x;
    }

    private static void stopped(String when, ReelLoom x, int kind, int sort, int column) {
        DUE.answers(when + ": stop(0)", kind, () -> x.stop(0));
        DUE.answers(when + ": stop(1)", sort, () -> x.stop(1));
        DUE.answers(when + ": stop(2)", column, () -> x.stop(2));
    }

    /** What column c has of the cloth's row 1, of TURNS, PULLS and WEAR. */
    private static void column(String when, ReelLoom x, int c, int... due) {
        DUE.answers(when + ": cell(1, " + c + ")", due[0], () -> x.cell(1, c));
        DUE.answers(when + ": turns " + c, due[1], () -> x.get(TURNS, c));
        DUE.answers(when + ": pulls " + c, due[2], () -> x.get(PULLS, c));
        DUE.answers(when + ": wear " + c, due[3], () -> x.get(WEAR, c));
    }

    private static void passGoesThroughAllColumns() {
        ReelLoom x = lifted(4);
        x.set(LIFTS, 1, 0);
        DUE.answers("pass(1, 65535)", 3, () -> x.pass(1, 65535));
        stopped("whole", x, 0, 0, 3);
        column("whole", x, 0, 101, 1, 2, 1);
        column("whole", x, 1, 65535, 1, -1, 0);
        column("whole", x, 2, 103, 1, 2, 1);
        DUE.answers("turns behind the cloth", 0, () -> x.get(TURNS, 3));
        DUE.answers("the other row", 0, () -> x.cell(0, 0));
        x.set(LIFTS, 0, 0);
        DUE.answers("pass(1, 0)", 3, () -> x.pass(1, 0));
        column("again", x, 0, 0, 2, 1, 1);
        column("again", x, 1, 0, 2, -2, 0);
        column("again", x, 2, 103, 2, 4, 2);
        DUE.answers("threads stay", 101, () -> x.get(THREADS, 0));
        DUE.answers("lifts stay", 1, () -> x.get(LIFTS, 2));
    }

    private static void passFitsWhatItPuts() {
        ReelLoom x = lifted(3);
        x.set(THREADS, 0, 65535);
        x.set(TURNS, 0, 32767);
        x.set(PULLS, 0, 799999);
        x.set(WEAR, 0, 127);
        x.set(LIFTS, 1, 0);
        x.set(PULLS, 1, -800000);
        x.set(PULLS, 2, 800000);
        x.set(TURNS, 2, -1);
        x.set(WEAR, 2, -1);
        DUE.answers("pass at the ends of the ranges", 3, () -> x.pass(1, 4));
        column("ends", x, 0, 65535, -32768, 800000, -128);
        column("ends", x, 1, 4, 1, -800000, 0);
        column("ends", x, 2, 103, 0, 800000, 0);
    }

    /** Takes a reel off, or cuts it down to one cell, which leaves it as it was there. */
    private static void shorten(ReelLoom x, int sort, int cells) {
        int first = x.get(sort, 0);
        x.off(sort);
        if (cells == 1) {
            x.mount(sort, 1);
            x.set(sort, 0, first);
        }
    }

    private static void passStopsAtEachReel() {
        for (int sort = 0; sort < 5; sort++) {
            for (int cells = 0; cells < 2; cells++) {
                stoppedPass(sort, cells);
            }
        }
    }

    private static void stoppedPass(int sort, int cells) {
        String when = "sort " + sort + " with " + cells;
        ReelLoom x = lifted(3);
        shorten(x, sort, cells);
        DUE.answers(when + ": pass", cells, () -> x.pass(1, 9));
        stopped(when, x, cells == 0 ? 1 : 2, sort, cells);
        boolean wove = sort != LIFTS && sort != THREADS;
        boolean turned = wove && sort != TURNS;
        boolean pulled = turned && sort != PULLS;
        DUE.answers(when + ": cell", wove ? 101 + cells : 0, () -> x.cell(1, cells));
        DUE.answers(when + ": the next cell", 0, () -> x.cell(1, cells + 1));
        if (sort != TURNS) {
            DUE.answers(when + ": turns", turned ? 1 : 0, () -> x.get(TURNS, cells));
        }
        if (sort != PULLS) {
            DUE.answers(when + ": pulls", pulled ? 2 : 0, () -> x.get(PULLS, cells));
        }
        if (sort != WEAR) {
            DUE.answers(when + ": wear", 0, () -> x.get(WEAR, cells));
        }
        if (cells == 1) {
            column(when, x, 0, 101, 1, 2, 1);
        }
    }

    private static void passStopsAtACutRow() {
        ReelLoom x = lifted(3);
        x.cut(1);
        DUE.answers("pass through a cut row", 0, () -> x.pass(1, 9));
        stopped("cut", x, 1, CLOTH, 0);
        DUE.answers("cut: turns", 0, () -> x.get(TURNS, 0));
        DUE.answers("cut: pulls", 0, () -> x.get(PULLS, 0));
        DUE.answers("cut: wear", 0, () -> x.get(WEAR, 0));
        DUE.answers("pass beside the cut row", 3, () -> x.pass(0, 9));
        x.off(TURNS);
        x.pass(1, 9);
        stopped("cut comes ahead of turns", x, 1, CLOTH, 0);
        x.mount(THREADS, 0);
        x.pass(1, 9);
        stopped("threads come ahead of cut", x, 2, THREADS, 0);
        x.set(LIFTS, 0, 0);
        x.pass(1, 9);
        stopped("cut, threads not wanted", x, 1, CLOTH, 0);
        x.off(LIFTS);
        x.pass(1, 9);
        stopped("lifts come ahead of all", x, 1, LIFTS, 0);
    }

    private static void passLooksOnlyAtWhatItNeeds() {
        ReelLoom x = lifted(3);
        x.mount(LIFTS, 3);
        x.off(THREADS);
        x.off(WEAR);
        DUE.answers("nothing lifted", 3, () -> x.pass(1, 9));
        stopped("nothing lifted", x, 0, 0, 3);
        DUE.answers("nothing lifted: cell", 9, () -> x.cell(1, 2));
        DUE.answers("nothing lifted: pulls", -1, () -> x.get(PULLS, 2));
        x.set(LIFTS, 2, 1);
        DUE.answers("the last one lifted", 2, () -> x.pass(1, 8));
        stopped("the last one lifted", x, 1, THREADS, 2);
        DUE.answers("the last one's cell stays", 9, () -> x.cell(1, 2));
        x.mount(THREADS, 3);
        DUE.answers("without wear", 2, () -> x.pass(1, 7));
        stopped("without wear", x, 1, WEAR, 2);
        DUE.answers("without wear: cell", 0, () -> x.cell(1, 2));
        DUE.answers("without wear: turns", 2, () -> x.get(TURNS, 2));
        DUE.answers("without wear: pulls", 1, () -> x.get(PULLS, 2));
        x.mount(WEAR, 2);
        x.pass(1, 7);
        stopped("wear too short", x, 2, WEAR, 2);
        x.copy(WEAR);
        x.mount(WEAR, 3);
        x.swap(WEAR);
        x.pass(1, 7);
        stopped("the spare does not help", x, 2, WEAR, 2);
    }

    private static void passWithoutColumns() {
        ReelLoom x = new ReelLoom();
        x.weave(2, 1);
        x.pass(0, 1);
        stopped("a new object's pass", x, 1, LIFTS, 0);
        x.weave(2, 0);
        DUE.answers("no columns, no reels", 0, () -> x.pass(0, 1));
        stopped("no columns, no reels", x, 0, 0, 0);
        x.cut(1);
        DUE.answers("no columns, cut", 0, () -> x.pass(1, 1));
        stopped("no columns, cut", x, 0, 0, 0);
        x.weave(0, 3);
        DUE.refuses("no rows", INDEX, () -> x.pass(0, 1));
    }

    private static void passRefuses() {
        ReelLoom x = new ReelLoom();
        DUE.refuses("pass without a cloth", STATE, () -> x.pass(-1, 0));
        for (int colour : new int[] {-1, 65536, Integer.MIN_VALUE, Integer.MAX_VALUE}) {
            DUE.refuses("colour " + colour + " without a cloth", ARGUMENT, () -> x.pass(-1, colour));
        }
        x.weave(2, 2);
        for (int row : NO_ROWS) {
            DUE.refuses("pass(" + row + ", 65535)", INDEX, () -> x.pass(row, 65535));
            DUE.refuses("pass(" + row + ", 65536)", ARGUMENT, () -> x.pass(row, 65536));
        }
        DUE.refuses("pass(0, -1)", ARGUMENT, () -> x.pass(0, -1));
    }

    private static void stopTellsTheLatestPass() {
        ReelLoom x = lifted(2);
        x.pass(0, 1);
        stopped("first", x, 2, LIFTS, 2);
        DUE.refuses("pass(2, 1)", INDEX, () -> x.pass(2, 1));
        DUE.refuses("pass(0, -1)", ARGUMENT, () -> x.pass(0, -1));
        stopped("after refused ones", x, 2, LIFTS, 2);
        x.mount(LIFTS, 3);
        x.weave(1, 1);
        stopped("after a new cloth", x, 2, LIFTS, 2);
        x.pass(0, 1);
        stopped("second", x, 0, 0, 1);
        for (int what : new int[] {-1, 3, Integer.MIN_VALUE, Integer.MAX_VALUE}) {
            DUE.refuses("stop(" + what + ")", ARGUMENT, () -> x.stop(what));
        }
    }

    private static void cutTakesOneRow() {
        ReelLoom x = new ReelLoom();
        DUE.refuses("cut without a cloth", STATE, () -> x.cut(-1));
        x.weave(2, 3);
        x.dye(1, 0, 0, 6);
        for (int row : NO_ROWS) {
            DUE.refuses("cut(" + row + ")", INDEX, () -> x.cut(row));
        }
        DUE.answers("cut(0)", 3, () -> x.cut(0));
        DUE.refuses("cut(0) again", STATE, () -> x.cut(0));
        DUE.refuses("cell(0, 0)", STATE, () -> x.cell(0, 0));
        DUE.answers("the other row stays where it is", 6, () -> x.cell(1, 0));
        DUE.answers("rows", 2, () -> x.sum(2));
        DUE.answers("rows cut", 1, () -> x.sum(4));
        DUE.answers("cut(1)", 3, () -> x.cut(1));
        DUE.refuses("cut(2)", INDEX, () -> x.cut(2));
        x.weave(1, 0);
        DUE.answers("cut without columns", 0, () -> x.cut(0));
    }

    private static void cellRefuses() {
        ReelLoom x = new ReelLoom();
        DUE.refuses("cell without a cloth", STATE, () -> x.cell(-1, -1));
        x.weave(2, 3);
        x.cut(1);
        for (int row : NO_ROWS) {
            DUE.refuses("cell(" + row + ", 0)", INDEX, () -> x.cell(row, 0));
        }
        for (int column : new int[] {-1, 3, 40, Integer.MIN_VALUE, Integer.MAX_VALUE}) {
            DUE.refuses("cell(0, " + column + ")", INDEX, () -> x.cell(0, column));
            DUE.refuses("cut comes first", STATE, () -> x.cell(1, column));
        }
        DUE.answers("cell(0, 2)", 0, () -> x.cell(0, 2));
    }

    private static void dyed(int has, int how, int v, int due) {
        ReelLoom x = new ReelLoom();
        x.weave(2, 2);
        x.dye(1, 0, 0, has);
        DUE.answers("dye(1, 0, " + how + ", " + v + ") of " + has, due, () -> x.dye(1, 0, how, v));
        DUE.answers("cell behind it", due, () -> x.cell(1, 0));
        DUE.answers("the cell beside it", 0, () -> x.cell(1, 1));
        DUE.answers("the cell above it", 0, () -> x.cell(0, 0));
    }

    private static void dyeCombines() {
        int highest = Integer.MAX_VALUE;
        int lowest = Integer.MIN_VALUE;
        dyed(highest, 0, 1, lowest);
        dyed(lowest, 1, 1, highest);
        dyed(0, 1, lowest, lowest);
        dyed(65536, 2, 65537, 65536);
        dyed(lowest, 2, -1, lowest);
        dyed(0x0FF0, 3, 0xFF, 0xF0);
        dyed(0x0FF0, 4, 0xFF, 0xFFF);
        dyed(0x0FF0, 5, 0xFF, 0xF0F);
        dyed(1, 6, 31, lowest);
        dyed(1, 6, 32, 1);
        dyed(1, 6, -1, lowest);
        dyed(lowest, 7, 31, -1);
        dyed(-8, 7, 33, -4);
        dyed(lowest, 8, 31, 1);
        dyed(-1, 8, 0, -1);
        dyed(-1, 8, 33, highest);
    }

    private static void dyeRefuses() {
        ReelLoom x = new ReelLoom();
        for (int how : new int[] {-1, 9, Integer.MIN_VALUE, Integer.MAX_VALUE}) {
            DUE.refuses("dye, how " + how + ", without a cloth", ARGUMENT, () -> x.dye(-1, -1, how, 0));
        }
        DUE.refuses("dye without a cloth", STATE, () -> x.dye(-1, -1, 0, 0));
        x.weave(2, 3);
        x.cut(1);
        for (int row : NO_ROWS) {
            DUE.refuses("dye at row " + row, INDEX, () -> x.dye(row, 0, 8, 0));
            DUE.refuses("a wrong how at row " + row, ARGUMENT, () -> x.dye(row, 0, 9, 0));
        }
        for (int column : new int[] {-1, 3, 40, Integer.MIN_VALUE, Integer.MAX_VALUE}) {
            DUE.refuses("dye at column " + column, INDEX, () -> x.dye(0, column, 0, 1));
            DUE.refuses("cut comes first", STATE, () -> x.dye(1, column, 0, 1));
            DUE.refuses("a wrong how comes ahead of cut", ARGUMENT, () -> x.dye(1, column, 9, 1));
        }
    }

    private static void seamCounts() {
        ReelLoom x = new ReelLoom();
        x.weave(3, 3);
        DUE.answers("seam of a new cloth", 3, () -> x.seam(0, 2));
        x.dye(0, 0, 0, 65536);
        x.dye(2, 2, 0, -1);
        DUE.answers("seam(0, 2)", 1, () -> x.seam(0, 2));
        DUE.answers("seam(2, 0)", 1, () -> x.seam(2, 0));
        DUE.answers("seam(0, 1)", 2, () -> x.seam(0, 1));
        x.dye(1, 0, 0, 65536);
        DUE.answers("seam(0, 1) of like rows", 3, () -> x.seam(0, 1));
        DUE.answers("seam(2, 2)", 3, () -> x.seam(2, 2));
        x.weave(2, 0);
        DUE.answers("seam without columns", 0, () -> x.seam(0, 1));
    }

    private static void seamRefuses() {
        ReelLoom x = new ReelLoom();
        DUE.refuses("seam without a cloth", STATE, () -> x.seam(-1, -1));
        x.weave(2, 3);
        for (int row : NO_ROWS) {
            DUE.refuses("seam(" + row + ", 0)", INDEX, () -> x.seam(row, 0));
            DUE.refuses("seam(0, " + row + ")", INDEX, () -> x.seam(0, row));
        }
        x.cut(1);
        DUE.refuses("seam(1, 0)", STATE, () -> x.seam(1, 0));
        DUE.refuses("seam(0, 1)", STATE, () -> x.seam(0, 1));
        DUE.refuses("seam(1, 1)", STATE, () -> x.seam(1, 1));
        DUE.refuses("the first row is cut, the other is none", STATE, () -> x.seam(1, 2));
        DUE.refuses("the first row is none, the other is cut", INDEX, () -> x.seam(-1, 1));
    }

    private static void sumWeighsTheCells() {
        ReelLoom x = new ReelLoom();
        int[] values = {7, -100, 20, 1, -3};
        int[] dues = {7, 7 - 200, 7 - 200 + 60, 7 - 200 + 60 + 4, 7 - 200 + 60 + 4 - 15};
        for (int k = 0; k < 5; k++) {
            int sort = k;
            x.mount(sort, 64);
            x.set(sort, 63 - sort, values[sort]);
            DUE.answers("sum(0) with sorts up to " + sort, dues[sort], () -> x.sum(0));
        }
        x.set(0, 0, 1000);
        DUE.answers("sum(0) of two cells", 1000 + dues[4], () -> x.sum(0));
        x.copy(0);
        DUE.answers("sum(0) leaves the spare out", 1000 + dues[4], () -> x.sum(0));
        x.off(0);
        DUE.answers("sum(0) leaves out what is off", dues[4] - 7, () -> x.sum(0));
        x.swap(0);
        x.mount(2, 64);
        for (int i = 0; i < 64; i++) {
            x.set(2, i, 800000);
        }
        DUE.answers("sum(0) of full pulls", 64 * 3 * 800000 + 1007 - 200 + 4 - 15, () -> x.sum(0));
        x.mount(2, 1);
        DUE.answers("sum(0) after a short mount", 1007 - 200 + 4 - 15, () -> x.sum(0));
    }

    private static void sumCounts() {
        ReelLoom x = new ReelLoom();
        x.mount(1, 0);
        x.mount(4, 2);
        DUE.answers("sum(1)", 3, () -> x.sum(1));
        x.copy(4);
        x.off(4);
        DUE.answers("sum(1) counts no spare", 4, () -> x.sum(1));
        x.weave(5, 4);
        x.cut(0);
        x.cut(4);
        DUE.answers("sum(2)", 5, () -> x.sum(2));
        DUE.answers("sum(3)", 4, () -> x.sum(3));
        DUE.answers("sum(4)", 2, () -> x.sum(4));
        x.weave(0, 0);
        for (int what = 2; what < 5; what++) {
            int asked = what;
            DUE.answers("sum(" + what + ") of an empty cloth", 0, () -> x.sum(asked));
        }
        for (int what : new int[] {-1, 5, Integer.MIN_VALUE, Integer.MAX_VALUE}) {
            DUE.refuses("sum(" + what + ")", ARGUMENT, () -> x.sum(what));
        }
    }

    private static ReelLoom woven() {
        ReelLoom x = lifted(3);
        x.mount(WEAR, 2);
        x.pass(0, 5);
        x.cut(1);
        return x;
    }

    private static void refusedCallsChangeNothing() {
        String before = Glance.of(woven());
        ReelLoom x = woven();
        DUE.refuses("weave(41, 1)", UNSUPPORTED, () -> x.weave(41, 1));
        DUE.refuses("weave(1, -1)", ARGUMENT, () -> x.weave(1, -1));
        DUE.refuses("pass(0, 65536)", ARGUMENT, () -> x.pass(0, 65536));
        DUE.refuses("pass(2, 1)", INDEX, () -> x.pass(2, 1));
        DUE.refuses("stop(3)", ARGUMENT, () -> x.stop(3));
        DUE.refuses("cut(1)", STATE, () -> x.cut(1));
        DUE.refuses("cut(2)", INDEX, () -> x.cut(2));
        DUE.refuses("cell(1, 0)", STATE, () -> x.cell(1, 0));
        DUE.refuses("dye(0, 0, 9, 1)", ARGUMENT, () -> x.dye(0, 0, 9, 1));
        DUE.refuses("dye(1, 0, 0, 1)", STATE, () -> x.dye(1, 0, 0, 1));
        DUE.refuses("dye(0, 3, 0, 1)", INDEX, () -> x.dye(0, 3, 0, 1));
        DUE.refuses("seam(0, 1)", STATE, () -> x.seam(0, 1));
        DUE.refuses("sum(5)", ARGUMENT, () -> x.sum(5));
        DUE.compare("after refused calls", before, Glance.of(x));
    }

    private ClothTest() {
    }
}
