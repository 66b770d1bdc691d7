/** "Of several exceptions the first one that the call names is thrown": each call that names several. */
public final class RefusalTest {
    private static final Due DUE = new Due();
    private static final Class<IllegalArgumentException> ARGUMENT = Looms.ARGUMENT;
    private static final Class<IllegalStateException> STATE = Looms.STATE;
    private static final Class<IndexOutOfBoundsException> INDEX = Looms.INDEX;
    private static final int PULLS = Looms.PULLS;
    private static final int LIFTS = Looms.LIFTS;
    private static final int CUT = Looms.CUT_ROW;
    private static final int[] NO_SORTS = {-1, 5, Looms.LOWEST, Looms.HIGHEST};
    private static final int[] NO_PLACES = {-1, 64, Looms.LOWEST, Looms.HIGHEST};
    private static final int[] NO_HOWS = {-1, 9, Looms.LOWEST, Looms.HIGHEST};
    private static final int[] NO_COLOURS = {-1, 65536, Looms.LOWEST, Looms.HIGHEST};
    private static final int[] NO_ROWS = {-1, 3, 40, Looms.LOWEST, Looms.HIGHEST};
    private static final int[] NO_COLUMNS = {-1, 5, 40, Looms.LOWEST, Looms.HIGHEST};
    private static final String FIRST = "Of several exceptions the first one that the call names is thrown.";

    public static void main(String[] args) {
        refusedCallsInARow();
        noSuchSortAheadOfAll();
        mountOfNoSuchSortAndTooManyCells();
        offReelAheadOfNoSuchCell();
        wrongAlterAheadOfAnOffReel();
        wrongAlterAheadOfNoSuchCell();
        weaveOfTooManyAheadOfTooFew();
        passOfAWrongColourAheadOfAll();
        passWithoutAClothAheadOfNoSuchRow();
        cutInItsOrder();
        cellInItsOrder();
        dyeOfAWrongHowAheadOfAll();
        dyeInItsOrder();
        seamInItsOrder();
        DUE.end("RefusalTest");
    }

    private static void refusedCallsInARow() {
        DUE.sentence("Terms", "A call that throws changes nothing.");
        ReelLoom x = Looms.workedWithout(4);
        Due.Call[] refused = {
            () -> x.mount(0, 65), () -> x.mount(4, -1), () -> x.mount(5, 1), () -> x.off(4), () -> x.off(-1),
            () -> x.swap(5), () -> x.copy(4), () -> x.copy(5), () -> x.size(5, true), () -> x.get(4, 0),
            () -> x.get(0, 4), () -> x.set(4, 0, 1), () -> x.set(0, 4, 1), () -> x.set(5, 0, 1),
            () -> x.alter(4, 0, 0, 1), () -> x.alter(1, 3, 0, 1), () -> x.alter(1, 0, 9, 1),
            () -> x.alter(PULLS, 0, 0, 800001), () -> x.alter(PULLS, 0, 2, 1), () -> x.alter(LIFTS, 0, 0, 1),
            () -> x.weave(41, 1), () -> x.weave(1, -1), () -> x.pass(0, 65536), () -> x.pass(3, 1),
            () -> x.stop(3), () -> x.cut(CUT), () -> x.cut(3), () -> x.cell(CUT, 0), () -> x.cell(0, 5),
            () -> x.dye(0, 0, 9, 1), () -> x.dye(CUT, 0, 0, 1), () -> x.dye(0, 5, 0, 1), () -> x.seam(0, CUT),
            () -> x.seam(3, 0), () -> x.sum(5)};
        for (int k = 0; k < refused.length; k++) {
            DUE.compare("refused call " + k, "true", "" + Due.outcome(refused[k]).startsWith("throws."));
        }
        DUE.compare("behind all of them", Glance.of(Looms.workedWithout(4)), Glance.of(x));
    }

    private static void noSuchSortAheadOfAll() {
        DUE.sentence("Terms", FIRST);
        for (int sort : NO_SORTS) {
            DUE.refuses("off(" + sort + ")", ARGUMENT, ReelLoom::new, x -> x.off(sort));
            DUE.refuses("copy(" + sort + ")", ARGUMENT, ReelLoom::new, x -> x.copy(sort));
            for (int i : NO_PLACES) {
                DUE.refuses("get(" + sort + ", " + i + ")", ARGUMENT, ReelLoom::new, x -> x.get(sort, i));
                DUE.refuses("set(" + sort + ", " + i + ", 1)", ARGUMENT, ReelLoom::new, x -> x.set(sort, i, 1));
                for (int how : new int[] {-1, 0, 3, 8, 9}) {
                    DUE.refuses("alter(" + sort + ", " + i + ", " + how + ", 1)", ARGUMENT, ReelLoom::new,
                            x -> x.alter(sort, i, how, 1));
                }
            }
        }
    }

    private static void mountOfNoSuchSortAndTooManyCells() {
        DUE.sentence("Terms", FIRST);
        for (int sort : NO_SORTS) {
            for (int n : new int[] {-1, 65, Looms.LOWEST, Looms.HIGHEST}) {
                DUE.refuses("mount(" + sort + ", " + n + ")", ARGUMENT, Looms::worked, x -> x.mount(sort, n));
            }
        }
    }

    private static void offReelAheadOfNoSuchCell() {
        DUE.sentence("Terms", FIRST);
        for (int k = 0; k < 5; k++) {
            int sort = k;
            int how = sort == LIFTS ? 5 : 1;
            for (int i : NO_PLACES) {
                DUE.refuses("get(" + sort + ", " + i + ")", STATE, ReelLoom::new, x -> x.get(sort, i));
                DUE.refuses("set(" + sort + ", " + i + ", 1)", STATE, ReelLoom::new, x -> x.set(sort, i, 1));
                DUE.refuses("alter(" + sort + ", " + i + ", " + how + ", 1)", STATE, ReelLoom::new,
                        x -> x.alter(sort, i, how, 1));
            }
        }
    }

    /** How and v that promise 9 has IllegalArgumentException for, by sort. */
    private static int[][] wrongAlters(int sort) {
        if (sort == PULLS) {
            return new int[][] {{-1, 1}, {2, 1}, {8, 1}, {9, 1}, {0, 800001}, {0, -800001}, {1, 800001}, {1, -800001},
                {2, 800001}};
        }
        if (sort == LIFTS) {
            return new int[][] {{-1, 1}, {0, 1}, {2, 0}, {6, 0}, {8, 1}, {9, 1}};
        }
        return new int[][] {{-1, 1}, {9, 1}, {Looms.LOWEST, 0}, {Looms.HIGHEST, 0}};
    }

    private static void wrongAlterAheadOfAnOffReel() {
        DUE.sentence("Terms", FIRST);
        for (int k = 0; k < 5; k++) {
            int sort = k;
            for (int[] wrong : wrongAlters(sort)) {
                for (int i : new int[] {-1, 0, 64}) {
                    DUE.refuses("alter(" + sort + ", " + i + ", " + wrong[0] + ", " + wrong[1] + "), OFF", ARGUMENT,
                            () -> Looms.workedWithout(sort), x -> x.alter(sort, i, wrong[0], wrong[1]));
                }
            }
        }
    }

    private static void wrongAlterAheadOfNoSuchCell() {
        DUE.sentence("Terms", FIRST);
        for (int k = 0; k < 5; k++) {
            int sort = k;
            for (int[] wrong : wrongAlters(sort)) {
                for (int i : NO_PLACES) {
                    DUE.refuses("alter(" + sort + ", " + i + ", " + wrong[0] + ", " + wrong[1] + ")", ARGUMENT,
                            Looms::worked, x -> x.alter(sort, i, wrong[0], wrong[1]));
                }
            }
        }
    }

    private static void weaveOfTooManyAheadOfTooFew() {
        DUE.sentence("Terms", FIRST);
        for (int[] size : new int[][] {{41, -1}, {-1, 41}, {Looms.HIGHEST, Looms.LOWEST}, {Looms.LOWEST, 41}}) {
            String call = "weave(" + size[0] + ", " + size[1] + ")";
            DUE.refuses(call, Looms.UNSUPPORTED, Looms::worked, x -> x.weave(size[0], size[1]));
            DUE.refuses(call, Looms.UNSUPPORTED, ReelLoom::new, x -> x.weave(size[0], size[1]));
        }
    }

    private static void passOfAWrongColourAheadOfAll() {
        DUE.sentence("Terms", FIRST);
        for (int colour : NO_COLOURS) {
            for (int row : new int[] {-1, 0, 3}) {
                String call = "pass(" + row + ", " + colour + ")";
                DUE.refuses(call + " without a cloth", ARGUMENT, Looms::clothless, x -> x.pass(row, colour));
                DUE.refuses(call, ARGUMENT, Looms::worked, x -> x.pass(row, colour));
            }
        }
    }

    private static void passWithoutAClothAheadOfNoSuchRow() {
        DUE.sentence("Terms", FIRST);
        for (int row : NO_ROWS) {
            DUE.refuses("pass(" + row + ", 9)", STATE, Looms::clothless, x -> x.pass(row, 9));
        }
    }

    private static void cutInItsOrder() {
        DUE.sentence("Promise 13", "(Of several: no cloth, no such row, CUT.)");
        for (int row : NO_ROWS) {
            DUE.refuses("cut(" + row + ") without a cloth", STATE, Looms::clothless, x -> x.cut(row));
            DUE.refuses("cut(" + row + ") beside one that is CUT", INDEX, Looms::worked, x -> x.cut(row));
        }
    }

    private static void cellInItsOrder() {
        DUE.sentence("Promise 14", "(Of several: no cloth, no such row, CUT, no such column; here and below.)");
        for (int column : NO_COLUMNS) {
            for (int row : NO_ROWS) {
                String call = "cell(" + row + ", " + column + ")";
                DUE.refuses(call + " without a cloth", STATE, Looms::clothless, x -> x.cell(row, column));
                DUE.refuses(call, INDEX, Looms::worked, x -> x.cell(row, column));
            }
            DUE.refuses("cell(1, " + column + "), CUT", STATE, Looms::worked, x -> x.cell(CUT, column));
        }
    }

    private static void dyeOfAWrongHowAheadOfAll() {
        DUE.sentence("Terms", FIRST);
        for (int how : NO_HOWS) {
            for (int row : new int[] {-1, 0, CUT, 3}) {
                for (int column : new int[] {-1, 0, 5}) {
                    String call = "dye(" + row + ", " + column + ", " + how + ", 1)";
                    DUE.refuses(call + " without a cloth", ARGUMENT, Looms::clothless,
                            x -> x.dye(row, column, how, 1));
                    DUE.refuses(call, ARGUMENT, Looms::worked, x -> x.dye(row, column, how, 1));
                }
            }
        }
    }

    private static void dyeInItsOrder() {
        DUE.sentence("Promise 14", "(Of several: no cloth, no such row, CUT, no such column; here and below.)");
        for (int column : NO_COLUMNS) {
            for (int row : NO_ROWS) {
                String call = "dye(" + row + ", " + column + ", 0, 1)";
                DUE.refuses(call + " without a cloth", STATE, Looms::clothless, x -> x.dye(row, column, 0, 1));
                DUE.refuses(call, INDEX, Looms::worked, x -> x.dye(row, column, 0, 1));
            }
            DUE.refuses("dye(1, " + column + ", 0, 1), CUT", STATE, Looms::worked, x -> x.dye(CUT, column, 0, 1));
        }
    }

    private static void seamInItsOrder() {
        DUE.sentence("Promise 16",
                "(Of several: no cloth; then the first row: no such row, CUT; then the other one likewise.)");
        for (int row : NO_ROWS) {
            DUE.refuses("seam(" + row + ", 0) without a cloth", STATE, Looms::clothless, x -> x.seam(row, 0));
            DUE.refuses("seam(0, " + row + ") without a cloth", STATE, Looms::clothless, x -> x.seam(0, row));
            DUE.refuses("the first is none, the other CUT", INDEX, Looms::worked, x -> x.seam(row, CUT));
            DUE.refuses("the first is CUT, the other none", STATE, Looms::worked, x -> x.seam(CUT, row));
            DUE.refuses("the first is there, the other none", INDEX, Looms::worked, x -> x.seam(0, row));
        }
        DUE.refuses("the first is there, the other CUT", STATE, Looms::worked, x -> x.seam(2, CUT));
        DUE.refuses("both are CUT", STATE, Looms::worked, x -> x.seam(CUT, CUT));
    }

    private RefusalTest() {
    }
}
