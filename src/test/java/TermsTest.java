import static java.lang.Integer.MAX_VALUE;
import static java.lang.Integer.MIN_VALUE;

/** The sentences of "Terms" on the cells of reels and cloth; those on the PASS are in PassTest. */
public final class TermsTest {
    private static final Due DUE = new Due();
    private static final String TERMS = "Terms";

    public static void main(String[] args) {
        threadsRange();
        turnsRange();
        pullsRange();
        liftsRange();
        wearRange();
        threadsModulo();
        turnsModulo();
        wearModulo();
        pullsBeyondTheirRange();
        liftsOfAnyNumber();
        reelsAreApart();
        reelsAreOffAtFirst();
        clothIsNotThereAtFirst();
        clothHasRowsOfAsManyColumns();
        clothHasCellsOfInts();
        cutRowIsNoMoreThere();
        otherRowsStayWhereTheyAre();
        objectIsGoodForAllItsCalls();
        objectsAreApart();
        DUE.end("TermsTest");
    }

    /** Each pair: what is put into a cell, and what the cell has then. */
    private static void put(int sort, int[][] pairs) {
        ReelLoom x = new ReelLoom();
        x.mount(sort, 3);
        for (int[] pair : pairs) {
            DUE.answers("set(" + sort + ", 1, " + pair[0] + ")", pair[1], () -> x.set(sort, 1, pair[0]));
            DUE.answers("get(" + sort + ", 1) behind " + pair[0], pair[1], () -> x.get(sort, 1));
        }
        DUE.answers("the cell ahead of it", 0, () -> x.get(sort, 0));
        DUE.answers("the cell behind it", 0, () -> x.get(sort, 2));
    }

    private static void threadsRange() {
        DUE.sentence(TERMS, "0 THREADS: numbers 0 .. 65535");
        put(Looms.THREADS, new int[][] {{0, 0}, {1, 1}, {-1, 65535}, {65534, 65534}, {65535, 65535}, {65536, 0}});
    }

    private static void turnsRange() {
        DUE.sentence(TERMS, "1 TURNS: -32768 .. 32767");
        put(Looms.TURNS, new int[][] {{-32767, -32767}, {-32768, -32768}, {-32769, 32767},
            {32766, 32766}, {32767, 32767}, {32768, -32768}, {0, 0}, {-1, -1}, {1, 1}});
    }

    private static void pullsRange() {
        DUE.sentence(TERMS, "2 PULLS: eighths, -800000 .. 800000");
        put(Looms.PULLS, new int[][] {{-799999, -799999}, {-800000, -800000}, {-800001, -800000},
            {799999, 799999}, {800000, 800000}, {800001, 800000}, {0, 0}, {-1, -1}, {1, 1}, {7, 7}, {8, 8}, {-9, -9}});
    }

    private static void liftsRange() {
        DUE.sentence(TERMS, "3 LIFTS: 0 or 1");
        put(Looms.LIFTS, new int[][] {{-1, 1}, {0, 0}, {1, 1}, {2, 1}});
    }

    private static void wearRange() {
        DUE.sentence(TERMS, "4 WEAR: -128 .. 127");
        put(Looms.WEAR, new int[][] {{-127, -127}, {-128, -128}, {-129, 127}, {126, 126}, {127, 127}, {128, -128},
            {0, 0}, {-1, -1}, {1, 1}});
    }

    /** Every number from one range below 0 to two above, beside a counter that wraps by itself. */
    private static void modulo(int sort, int lowest, int highest) {
        int range = highest - lowest + 1;
        int due = 0;
        ReelLoom loom = new ReelLoom();
        int calls = 512;
        for (int v = -range; v <= 2 * range; v++) {
            if (calls == 512) {
                loom = new ReelLoom();
                loom.mount(sort, 1);
                calls = 1;
            }
            ReelLoom x = loom;
            int put = v;
            DUE.answers("set(" + sort + ", 0, " + put + ")", due, () -> x.set(sort, 0, put));
            calls++;
            due = due == highest ? lowest : due + 1;
        }
    }

    private static void threadsModulo() {
        DUE.sentence(TERMS, "of THREADS, TURNS and WEAR the number of their range that is v modulo 65536, 65536, 256");
        modulo(Looms.THREADS, 0, 65535);
        put(Looms.THREADS, new int[][] {{MAX_VALUE, 65535}, {MIN_VALUE, 0}, {MIN_VALUE + 1, 1}, {-65536, 0},
            {-65537, 65535}, {-131072, 0}, {0x12345678, 0x5678}});
    }

    private static void turnsModulo() {
        DUE.sentence(TERMS, "of THREADS, TURNS and WEAR the number of their range that is v modulo 65536, 65536, 256");
        modulo(Looms.TURNS, -32768, 32767);
        put(Looms.TURNS, new int[][] {{MAX_VALUE, -1}, {MIN_VALUE, 0}, {MIN_VALUE + 1, 1}, {98303, 32767},
            {98304, -32768}, {-98304, -32768}, {-98305, 32767}});
    }

    private static void wearModulo() {
        DUE.sentence(TERMS, "of THREADS, TURNS and WEAR the number of their range that is v modulo 65536, 65536, 256");
        modulo(Looms.WEAR, -128, 127);
        put(Looms.WEAR, new int[][] {{MAX_VALUE, -1}, {MIN_VALUE, 0}, {MIN_VALUE + 1, 1}, {383, 127}, {384, -128},
            {-384, -128}, {-385, 127}, {65535, -1}, {65536, 0}});
    }

    private static void pullsBeyondTheirRange() {
        DUE.sentence(TERMS, "of PULLS v, but the nearest end of the range if it is beyond");
        put(Looms.PULLS, new int[][] {{800001, 800000}, {-800001, -800000}, {MAX_VALUE, 800000},
            {MIN_VALUE, -800000}, {1600000, 800000}, {-1600001, -800000}, {65536, 65536}, {-65537, -65537}});
    }

    private static void liftsOfAnyNumber() {
        DUE.sentence(TERMS, "of LIFTS 0 for 0, else 1");
        put(Looms.LIFTS, new int[][] {{0, 0}, {2, 1}, {0, 0}, {-2, 1}, {0, 0}, {256, 1}, {0, 0}, {65536, 1},
            {MAX_VALUE, 1}, {0, 0}, {MIN_VALUE, 1}});
    }

    /** The first and the last cell of full reels: none of them is a cell of the reel beside it. */
    private static void reelsAreApart() {
        DUE.sentence(TERMS, "REELS are of SORTS, each with CELLS at places 0, 1, ..");
        for (int k = 0; k < 5; k++) {
            int sort = k;
            ReelLoom x = new ReelLoom();
            for (int other = 0; other < 5; other++) {
                x.mount(other, 64);
            }
            x.copy(sort);
            x.set(sort, 0, 1);
            x.set(sort, 63, 1);
            DUE.answers("sum(0), two cells of sort " + sort, 2 * (sort + 1), () -> x.sum(0));
            for (int other = 0; other < 5; other++) {
                int asked = other;
                int due = other == sort ? 1 : 0;
                DUE.answers("get(" + other + ", 0) beside " + sort, due, () -> x.get(asked, 0));
                DUE.answers("get(" + other + ", 63) beside " + sort, due, () -> x.get(asked, 63));
            }
            x.swap(sort);
            DUE.answers("sum(0) with the spare of sort " + sort, 0, () -> x.sum(0));
        }
    }

    private static void reelsAreOffAtFirst() {
        DUE.sentence(TERMS, "Of each sort there are a reel that WORKS and a SPARE one; each of these is OFF at first (there is none).");
        for (int k = 0; k < 5; k++) {
            int sort = k;
            ReelLoom x = new ReelLoom();
            DUE.answers("size(" + sort + ", false)", -1, () -> x.size(sort, false));
            DUE.answers("size(" + sort + ", true)", -1, () -> x.size(sort, true));
            DUE.answers("swap(" + sort + ")", -1, () -> x.swap(sort));
            DUE.refuses("get(" + sort + ", 0)", Looms.STATE, () -> x.get(sort, 0));
        }
    }

    private static void clothIsNotThereAtFirst() {
        DUE.sentence(TERMS, "THE CLOTH (none at first)");
        ReelLoom x = new ReelLoom();
        DUE.answers("sum(2)", -1, () -> x.sum(2));
        DUE.answers("sum(3)", -1, () -> x.sum(3));
        DUE.answers("sum(4)", -1, () -> x.sum(4));
        DUE.refuses("cell(0, 0)", Looms.STATE, () -> x.cell(0, 0));
    }

    /** A cell at the end of a row is none of the row behind it, nor one at its beginning. */
    private static void clothHasRowsOfAsManyColumns() {
        DUE.sentence(TERMS, "has rows of as many columns each");
        for (int size : new int[] {1, 2, 39, 40}) {
            ReelLoom x = new ReelLoom();
            x.weave(size, size);
            for (int row = 0; row < size; row++) {
                x.dye(row, 0, 0, 1000 + row);
                x.dye(row, size - 1, 0, 5000 + row);
            }
            for (int r = 0; r < size; r++) {
                int row = r;
                boolean oneColumn = size == 1;
                DUE.answers(size + " wide: cell(" + row + ", 0)", oneColumn ? 6000 : 1000 + row, () -> x.cell(row, 0));
                DUE.answers(size + " wide: the last cell of row " + row, oneColumn ? 6000 : 5000 + row,
                        () -> x.cell(row, size - 1));
                DUE.refuses(size + " wide: beyond row " + row, Looms.INDEX, () -> x.cell(row, size));
            }
        }
    }

    private static void clothHasCellsOfInts() {
        DUE.sentence(TERMS, "CELLS of ints, all 0 at first.");
        ReelLoom x = new ReelLoom();
        x.weave(1, 2);
        DUE.answers("cell(0, 0) at first", 0, () -> x.cell(0, 0));
        DUE.answers("cell(0, 1) at first", 0, () -> x.cell(0, 1));
        for (int v : new int[] {MAX_VALUE, MIN_VALUE, -1, 65536, 800001, -800001}) {
            x.dye(0, 1, 3, 0);
            DUE.answers("dye(0, 1, 0, " + v + ")", v, () -> x.dye(0, 1, 0, v));
            DUE.answers("cell(0, 1) behind " + v, v, () -> x.cell(0, 1));
        }
        DUE.answers("cell(0, 0) still", 0, () -> x.cell(0, 0));
    }

    private static void cutRowIsNoMoreThere() {
        DUE.sentence(TERMS, "A row may be CUT: then it is no more there");
        ReelLoom x = new ReelLoom();
        x.weave(3, 2);
        x.cut(1);
        DUE.refuses("cell(1, 0)", Looms.STATE, () -> x.cell(1, 0));
        DUE.refuses("dye(1, 0, 0, 1)", Looms.STATE, () -> x.dye(1, 0, 0, 1));
        DUE.refuses("cut(1)", Looms.STATE, () -> x.cut(1));
        DUE.refuses("seam(1, 0)", Looms.STATE, () -> x.seam(1, 0));
        DUE.refuses("seam(0, 1)", Looms.STATE, () -> x.seam(0, 1));
    }

    /** Also the first and the last row of all, and all rows at once. */
    private static void otherRowsStayWhereTheyAre() {
        DUE.sentence(TERMS, "and the others stay where they are.");
        for (int cut : new int[] {0, 1, 38, 39}) {
            ReelLoom x = new ReelLoom();
            x.weave(40, 1);
            for (int row = 0; row < 40; row++) {
                x.dye(row, 0, 0, 700 + row);
            }
            x.cut(cut);
            for (int r = 0; r < 40; r++) {
                int row = r;
                if (row == cut) {
                    DUE.refuses("cut " + cut + ": cell(" + row + ", 0)", Looms.STATE, () -> x.cell(row, 0));
                } else {
                    DUE.answers("cut " + cut + ": cell(" + row + ", 0)", 700 + row, () -> x.cell(row, 0));
                }
            }
            DUE.refuses("cut " + cut + ": cell(40, 0)", Looms.INDEX, () -> x.cell(40, 0));
        }
    }

    private static void objectIsGoodForAllItsCalls() {
        DUE.sentence("What it is", "An object is used for at most 512 calls after it has been made");
        ReelLoom x = new ReelLoom();
        x.mount(Looms.THREADS, 1);
        for (int call = 2; call <= 512; call++) {
            int due = call - 1;
            DUE.answers("call " + call, due, () -> x.alter(Looms.THREADS, 0, 0, 1));
        }
    }

    private static void objectsAreApart() {
        DUE.sentence("Promise 1", "All reels are off, there is no cloth; no pass was made.");
        ReelLoom early = new ReelLoom();
        String worked = Glance.of(Looms.worked());
        ReelLoom loom = Looms.worked();
        ReelLoom late = new ReelLoom();
        DUE.compare("an object made ahead of another's calls", Glance.of(new ReelLoom()), Glance.of(early));
        DUE.answers("an object made behind another's calls: sum(1)", 5, () -> late.sum(1));
        DUE.answers("an object made behind another's calls: stop(0)", 0, () -> late.stop(0));
        late.weave(1, 1);
        late.mount(Looms.TURNS, 1);
        late.pass(0, 1);
        DUE.compare("the other object", worked, Glance.of(loom));
    }

    private TermsTest() {
    }
}
