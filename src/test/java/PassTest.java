/** The PASS and its STOP in "Terms", and promises 11 and 12: pass and stop. */
public final class PassTest {
    private static final Due DUE = new Due();
    private static final int THREADS = Looms.THREADS;
    private static final int TURNS = Looms.TURNS;
    private static final int PULLS = Looms.PULLS;
    private static final int LIFTS = Looms.LIFTS;
    private static final int WEAR = Looms.WEAR;
    private static final int CLOTH = Looms.CLOTH;
    private static final int LOWEST = Looms.LOWEST;
    private static final int HIGHEST = Looms.HIGHEST;
    private static final String TERMS = "Terms";
    private static final String PASS = "Promise 11";
    private static final String STOP = "Promise 12";
    private static final String STOPS_THERE =
            "Where the reel that is wanted is OFF, or has no cell c, or the row of the cloth is CUT, the pass STOPS there";
    /** What a pass looks for in a column that is lifted, in its order; CLOTH is the row. */
    private static final int[] ORDER = {LIFTS, THREADS, CLOTH, TURNS, PULLS, WEAR};

    public static void main(String[] args) {
        goesFromColumnNought();
        liftedByLifts();
        colourOfThreadsOrAsTold();
        becomesTheCellOfTheCloth();
        turnsBecomeOneMore();
        pullsBecomeTwoMoreOrOneLess();
        wearBecomesOneMoreIfLifted();
        workingReelsAlone();
        turnsAndWearWrap();
        pullsStayInTheirRange();
        stopsWhereAReelIsOff();
        stopsWhereAReelHasNoSuchCell();
        stopsWhereTheRowIsCut();
        stopsAtTheFirstThatIsMissing();
        wantsNoThreadsOrWearIfNotLifted();
        whatWasDoneAheadStays();
        reelsOneCellTooShort();
        kindOfAStop();
        sortOfAStop();
        columnOfAStop();
        noColumnsAtAll();
        answersTheColumnsDoneWholly();
        fullCloth();
        colourBeyondItsRange();
        noClothYet();
        noSuchRow();
        stopOfTheLatestPass();
        stopAheadOfAnyPass();
        stopOfAnotherWhat();
        DUE.end("PassTest");
    }

    /** Reels of so many cells, every one lifted, thread i with colour 101 + i, and a cloth. */
    private static ReelLoom lifted(int cells, int rows, int columns) {
        ReelLoom x = new ReelLoom();
        for (int sort = 0; sort < 5; sort++) {
            x.mount(sort, cells);
        }
        for (int i = 0; i < cells; i++) {
            x.set(LIFTS, i, 1);
            x.set(THREADS, i, 101 + i);
        }
        x.weave(rows, columns);
        return x;
    }

    /** Leaves the first cells of a reel alone: so many, or -1 to take it off. */
    private static void shorten(ReelLoom x, int sort, int cells) {
        int[] kept = new int[Math.max(cells, 0)];
        for (int i = 0; i < cells; i++) {
            kept[i] = x.get(sort, i);
        }
        x.off(sort);
        if (cells >= 0) {
            x.mount(sort, cells);
        }
        for (int i = 0; i < cells; i++) {
            x.set(sort, i, kept[i]);
        }
    }

    private static void stopped(String when, ReelLoom x, int kind, int sort, int column) {
        DUE.answers(when + ": stop(0)", kind, () -> x.stop(0));
        DUE.answers(when + ": stop(1)", sort, () -> x.stop(1));
        DUE.answers(when + ": stop(2)", column, () -> x.stop(2));
    }

    private static void has(String when, ReelLoom x, int sort, int... due) {
        for (int k = 0; k < due.length; k++) {
            int i = k;
            DUE.answers(when + ": get(" + sort + ", " + i + ")", due[i], () -> x.get(sort, i));
        }
    }

    private static void rowHas(String when, ReelLoom x, int row, int... due) {
        for (int k = 0; k < due.length; k++) {
            int column = k;
            DUE.answers(when + ": cell(" + row + ", " + column + ")", due[column], () -> x.cell(row, column));
        }
    }

    private static void goesFromColumnNought() {
        DUE.sentence(TERMS, "A PASS through a row of the cloth with a COLOUR goes from column 0 on");
        for (int row = 0; row < 3; row++) {
            ReelLoom x = lifted(4, 3, 3);
            x.pass(row, 9);
            for (int other = 0; other < 3; other++) {
                int[] due = other == row ? new int[] {101, 102, 103} : new int[] {0, 0, 0};
                rowHas("pass through row " + row, x, other, due);
            }
        }
    }

    private static void liftedByLifts() {
        DUE.sentence(TERMS, "1. the cell c of LIFTS tells whether it is LIFTED (1)");
        ReelLoom x = lifted(4, 1, 4);
        x.set(LIFTS, 0, 0);
        x.set(LIFTS, 2, 0);
        x.pass(0, 9);
        rowHas("lifted in columns 1 and 3", x, 0, 9, 102, 9, 104);
        has("LIFTS themselves stay", x, LIFTS, 0, 1, 0, 1);
    }

    private static void colourOfThreadsOrAsTold() {
        DUE.sentence(TERMS, "2. if so, the cell's colour is cell c of THREADS, else the COLOUR told");
        for (int colour : new int[] {0, 1, 65534, 65535}) {
            ReelLoom x = lifted(2, 1, 2);
            x.set(THREADS, 0, colour);
            x.set(LIFTS, 1, 0);
            x.pass(0, 65535 - colour);
            rowHas("colour " + colour + " of threads, " + (65535 - colour) + " told", x, 0, colour, 65535 - colour);
            has("THREADS themselves stay", x, THREADS, colour, 102);
        }
    }

    private static void becomesTheCellOfTheCloth() {
        DUE.sentence(TERMS, "3. that becomes the cell of the cloth");
        ReelLoom x = lifted(2, 1, 2);
        x.set(LIFTS, 1, 0);
        x.dye(0, 0, 0, HIGHEST);
        x.dye(0, 1, 0, LOWEST);
        x.pass(0, 0);
        rowHas("over other cells", x, 0, 101, 0);
    }

    private static void turnsBecomeOneMore() {
        DUE.sentence(TERMS, "4. cell c of TURNS becomes 1 more");
        ReelLoom x = lifted(3, 1, 2);
        x.set(LIFTS, 1, 0);
        x.pass(0, 5);
        has("once", x, TURNS, 1, 1, 0);
        x.pass(0, 5);
        has("twice", x, TURNS, 2, 2, 0);
    }

    private static void pullsBecomeTwoMoreOrOneLess() {
        DUE.sentence(TERMS, "5. cell c of PULLS becomes 2 more if LIFTED, else 1 less");
        ReelLoom x = lifted(3, 1, 2);
        x.set(LIFTS, 1, 0);
        x.pass(0, 5);
        has("once", x, PULLS, 2, -1, 0);
        x.pass(0, 5);
        has("twice", x, PULLS, 4, -2, 0);
    }

    private static void wearBecomesOneMoreIfLifted() {
        DUE.sentence(TERMS, "6. if LIFTED, cell c of WEAR becomes 1 more.");
        ReelLoom x = lifted(3, 1, 2);
        x.set(LIFTS, 1, 0);
        x.pass(0, 5);
        has("once", x, WEAR, 1, 0, 0);
        x.pass(0, 5);
        has("twice", x, WEAR, 2, 0, 0);
    }

    private static void workingReelsAlone() {
        DUE.sentence(TERMS, "(Working reels;");
        ReelLoom x = lifted(2, 1, 2);
        for (int sort = 0; sort < 5; sort++) {
            x.copy(sort);
        }
        x.set(THREADS, 0, 7);
        x.set(LIFTS, 1, 0);
        DUE.answers("pass(0, 5)", 2, () -> x.pass(0, 5));
        rowHas("the spares are not asked", x, 0, 7, 5);
        for (int sort = 0; sort < 5; sort++) {
            x.swap(sort);
        }
        has("the spare THREADS", x, THREADS, 101, 102);
        has("the spare TURNS", x, TURNS, 0, 0);
        has("the spare PULLS", x, PULLS, 0, 0);
        has("the spare LIFTS", x, LIFTS, 1, 1);
        has("the spare WEAR", x, WEAR, 0, 0);
        for (int k = 0; k < 5; k++) {
            int sort = k;
            ReelLoom y = lifted(2, 1, 2);
            y.swap(sort);
            DUE.answers("a spare of sort " + sort + " does not help", 0, () -> y.pass(0, 5));
            stopped("a spare of sort " + sort, y, 1, sort, 0);
        }
    }

    private static void turnsAndWearWrap() {
        DUE.sentence(TERMS, "1 more and less as said of what is put into a cell.)");
        ReelLoom x = lifted(3, 1, 3);
        int[] turns = {32767, 32766, -1};
        int[] wear = {127, 126, -1};
        for (int i = 0; i < 3; i++) {
            x.set(TURNS, i, turns[i]);
            x.set(WEAR, i, wear[i]);
        }
        x.pass(0, 5);
        has("TURNS at the end of their range", x, TURNS, -32768, 32767, 0);
        has("WEAR at the end of its range", x, WEAR, -128, 127, 0);
        x.pass(0, 5);
        has("TURNS again", x, TURNS, -32767, -32768, 1);
        has("WEAR again", x, WEAR, -127, -128, 1);
    }

    private static void pullsStayInTheirRange() {
        DUE.sentence(TERMS, "1 more and less as said of what is put into a cell.)");
        ReelLoom x = lifted(6, 1, 6);
        int[] pulls = {799997, 799998, 799999, 800000, -799999, -800000};
        for (int i = 0; i < 6; i++) {
            x.set(PULLS, i, pulls[i]);
        }
        x.set(LIFTS, 4, 0);
        x.set(LIFTS, 5, 0);
        x.pass(0, 5);
        has("PULLS at the ends of their range", x, PULLS, 799999, 800000, 800000, 800000, -800000, -800000);
        x.pass(0, 5);
        has("PULLS again", x, PULLS, 800000, 800000, 800000, 800000, -800000, -800000);
    }

    /** What a pass left in column c: in this order, as far as it came, cell, TURNS, PULLS, WEAR. */
    private static void leftBehind(String when, ReelLoom x, int missing, int c) {
        int step = 0;
        while (ORDER[step] != missing) {
            step++;
        }
        boolean turned = step > 3;
        boolean pulled = step > 4;
        if (missing != CLOTH) {
            DUE.answers(when + ": the cell", step > 2 ? 101 + c : 0, () -> x.cell(1, c));
            DUE.answers(when + ": the next cell", 0, () -> x.cell(1, c + 1));
        }
        if (missing != TURNS) {
            DUE.answers(when + ": TURNS", turned ? 1 : 0, () -> x.get(TURNS, c));
        }
        if (missing != PULLS) {
            DUE.answers(when + ": PULLS", pulled ? 2 : 0, () -> x.get(PULLS, c));
        }
        if (missing != WEAR) {
            DUE.answers(when + ": WEAR", 0, () -> x.get(WEAR, c));
        }
    }

    private static void stopsWhereAReelIsOff() {
        DUE.sentence(TERMS, STOPS_THERE);
        for (int k = 0; k < 5; k++) {
            int sort = k;
            ReelLoom x = lifted(4, 2, 4);
            x.off(sort);
            DUE.answers("OFF " + sort + ": pass", 0, () -> x.pass(1, 9));
            stopped("OFF " + sort, x, 1, sort, 0);
            leftBehind("OFF " + sort, x, sort, 0);
        }
    }

    private static void stopsWhereAReelHasNoSuchCell() {
        DUE.sentence(TERMS, STOPS_THERE);
        for (int k = 0; k < 5; k++) {
            int sort = k;
            for (int n = 0; n < 3; n++) {
                int cells = n;
                String when = cells + " cells of sort " + sort;
                ReelLoom x = lifted(4, 2, 4);
                shorten(x, sort, cells);
                DUE.answers(when + ": pass", cells, () -> x.pass(1, 9));
                stopped(when, x, 2, sort, cells);
                leftBehind(when, x, sort, cells);
            }
        }
    }

    private static void stopsWhereTheRowIsCut() {
        DUE.sentence(TERMS, STOPS_THERE);
        for (int lift = 0; lift < 2; lift++) {
            ReelLoom x = lifted(4, 2, 4);
            x.set(LIFTS, 0, lift);
            x.cut(1);
            DUE.answers("CUT: pass", 0, () -> x.pass(1, 9));
            stopped("CUT", x, 1, CLOTH, 0);
            leftBehind("CUT", x, CLOTH, 0);
            rowHas("the row that is not CUT", x, 0, 0, 0, 0, 0);
            DUE.answers("pass through the row that is not CUT", 4, () -> x.pass(0, 9));
            stopped("not CUT", x, 0, 0, 4);
        }
    }

    /** Of any two that are missing in a column, the one that is looked for first stops the pass. */
    private static void stopsAtTheFirstThatIsMissing() {
        DUE.sentence(TERMS, STOPS_THERE);
        for (int first = 0; first < 6; first++) {
            for (int second = first + 1; second < 6; second++) {
                for (int cells = -1; cells < 1; cells++) {
                    ReelLoom x = lifted(3, 1, 3);
                    take(x, ORDER[first], cells);
                    take(x, ORDER[second], -1 - cells);
                    x.pass(0, 9);
                    String when = ORDER[first] + " with " + cells + " ahead of " + ORDER[second];
                    stopped(when, x, cells == -1 || ORDER[first] == CLOTH ? 1 : 2, ORDER[first], 0);
                }
            }
        }
    }

    private static void take(ReelLoom x, int missing, int cells) {
        if (missing == CLOTH) {
            x.cut(0);
        } else {
            shorten(x, missing, cells);
        }
    }

    private static void wantsNoThreadsOrWearIfNotLifted() {
        DUE.sentence(TERMS, STOPS_THERE);
        for (int cells = -1; cells < 3; cells++) {
            for (int sort : new int[] {THREADS, WEAR}) {
                ReelLoom x = lifted(4, 1, 4);
                shorten(x, sort, cells);
                for (int i = Math.max(cells, 0); i < 4; i++) {
                    x.set(LIFTS, i, 0);
                }
                String when = cells + " cells of sort " + sort + ", not lifted beyond";
                DUE.answers(when, 4, () -> x.pass(0, 9));
                stopped(when, x, 0, 0, 4);
                x.set(LIFTS, 3, 1);
                DUE.answers(when + " but in the last column", 3, () -> x.pass(0, 9));
                stopped(when + " but in the last column", x, cells == -1 ? 1 : 2, sort, 3);
            }
        }
    }

    private static void whatWasDoneAheadStays() {
        DUE.sentence(TERMS, "what was done ahead of that stays.");
        ReelLoom x = lifted(3, 1, 3);
        shorten(x, WEAR, 2);
        x.set(LIFTS, 1, 0);
        DUE.answers("pass(0, 9)", 2, () -> x.pass(0, 9));
        rowHas("WEAR too short", x, 0, 101, 9, 103);
        has("WEAR too short", x, TURNS, 1, 1, 1);
        has("WEAR too short", x, PULLS, 2, -1, 2);
        has("WEAR too short", x, WEAR, 1, 0);
        shorten(x, PULLS, 1);
        DUE.answers("pass(0, 8)", 1, () -> x.pass(0, 8));
        rowHas("PULLS too short", x, 0, 101, 8, 103);
        has("PULLS too short", x, TURNS, 2, 2, 1);
        has("PULLS too short", x, PULLS, 4);
        has("PULLS too short", x, WEAR, 2, 0);
        x.off(TURNS);
        DUE.answers("pass(0, 7)", 0, () -> x.pass(0, 7));
        rowHas("TURNS off", x, 0, 101, 8, 103);
        has("TURNS off", x, PULLS, 4);
        has("TURNS off", x, WEAR, 2, 0);
    }

    /** One cell fewer than the cloth has columns stops in the last one; as many, or more, do not. */
    private static void reelsOneCellTooShort() {
        DUE.sentence(TERMS, "or has no cell c");
        for (int columns : new int[] {1, 2, 39, 40}) {
            for (int cells : new int[] {columns - 1, columns, columns + 1}) {
                ReelLoom x = lifted(cells, 1, columns);
                int due = Math.min(cells, columns);
                String when = cells + " cells, " + columns + " columns";
                DUE.answers(when, due, () -> x.pass(0, 9));
                stopped(when, x, due < columns ? 2 : 0, due < columns ? LIFTS : 0, due);
                if (due > 0) {
                    DUE.answers(when + ": the last cell that was done", 100 + due, () -> x.cell(0, due - 1));
                }
                if (due < columns) {
                    DUE.answers(when + ": the cell behind it", 0, () -> x.cell(0, due));
                }
                DUE.answers(when + ": sum(0)", weighed(cells, due), () -> x.sum(0));
            }
        }
    }

    /** The sum over lifted reels of so many cells, once so many columns were done. */
    private static int weighed(int cells, int done) {
        int threads = 0;
        for (int i = 0; i < cells; i++) {
            threads += 101 + i;
        }
        return threads + done * 2 + done * 2 * 3 + cells * 4 + done * 5;
    }

    private static void kindOfAStop() {
        DUE.sentence(TERMS, "its KIND (0 it did not stop, 1 OFF or CUT, 2 no such cell)");
        ReelLoom x = lifted(3, 2, 3);
        x.pass(0, 9);
        DUE.answers("it did not stop: stop(0)", 0, () -> x.stop(0));
        shorten(x, WEAR, 2);
        x.pass(0, 9);
        DUE.answers("no such cell: stop(0)", 2, () -> x.stop(0));
        x.off(WEAR);
        x.pass(0, 9);
        DUE.answers("OFF: stop(0)", 1, () -> x.stop(0));
        x.mount(WEAR, 0);
        x.pass(0, 9);
        DUE.answers("a reel of no cells: stop(0)", 2, () -> x.stop(0));
        x.cut(1);
        x.pass(1, 9);
        DUE.answers("CUT: stop(0)", 1, () -> x.stop(0));
        x.mount(WEAR, 3);
        x.pass(0, 9);
        DUE.answers("it did not stop again: stop(0)", 0, () -> x.stop(0));
    }

    private static void sortOfAStop() {
        DUE.sentence(TERMS, "its SORT (that of the reel, 5 the cloth's row; 0 if it did not stop)");
        for (int missing : ORDER) {
            ReelLoom x = lifted(3, 1, 3);
            take(x, missing, -1);
            x.pass(0, 9);
            DUE.answers("without " + missing + ": stop(1)", missing, () -> x.stop(1));
            x.weave(1, 3);
            for (int sort = 0; sort < 5; sort++) {
                x.mount(sort, 3);
            }
            x.pass(0, 9);
            DUE.answers("it did not stop: stop(1)", 0, () -> x.stop(1));
        }
    }

    private static void columnOfAStop() {
        DUE.sentence(TERMS, "its column (how many there are, if it did not stop).");
        for (int columns : new int[] {1, 2, 39, 40}) {
            ReelLoom x = lifted(40, 1, columns);
            x.pass(0, 9);
            DUE.answers("it did not stop: stop(2)", columns, () -> x.stop(2));
            x.mount(LIFTS, columns - 1);
            x.pass(0, 9);
            DUE.answers("it stopped in the last one: stop(2)", columns - 1, () -> x.stop(2));
            x.off(LIFTS);
            x.pass(0, 9);
            DUE.answers("it stopped in the first one: stop(2)", 0, () -> x.stop(2));
        }
    }

    /** No column is come to, so nothing is looked for: neither reels nor the row. */
    private static void noColumnsAtAll() {
        DUE.sentence(TERMS, "goes from column 0 on; in each, c being the column");
        ReelLoom x = Looms.worked();
        x.weave(2, 0);
        DUE.answers("no columns", 0, () -> x.pass(0, 9));
        stopped("no columns", x, 0, 0, 0);
        x.cut(1);
        DUE.answers("no columns, CUT", 0, () -> x.pass(1, 9));
        stopped("no columns, CUT", x, 0, 0, 0);
        for (int sort = 0; sort < 5; sort++) {
            x.off(sort);
        }
        DUE.answers("no columns, no reels", 0, () -> x.pass(0, 9));
        stopped("no columns, no reels", x, 0, 0, 0);
        DUE.refuses("no columns, no such row", Looms.INDEX, () -> Looms.workedOn(2, 0), y -> y.pass(2, 9));
    }

    private static void answersTheColumnsDoneWholly() {
        DUE.sentence(PASS, "A PASS: how many columns were done wholly.");
        for (int k = 0; k < 5; k++) {
            int sort = k;
            for (int cells = -1; cells < 4; cells++) {
                ReelLoom x = lifted(3, 1, 3);
                shorten(x, sort, cells);
                DUE.answers(cells + " cells of sort " + sort, Math.max(cells, 0), () -> x.pass(0, 9));
            }
        }
    }

    private static void fullCloth() {
        DUE.sentence(PASS, "A PASS: how many columns were done wholly.");
        ReelLoom x = lifted(64, 40, 40);
        DUE.answers("pass(39, 9) through a full cloth", 40, () -> x.pass(39, 9));
        stopped("a full cloth", x, 0, 0, 40);
        DUE.answers("its last cell", 140, () -> x.cell(39, 39));
        DUE.answers("the last cell above it", 0, () -> x.cell(38, 39));
        DUE.answers("TURNS 39", 1, () -> x.get(TURNS, 39));
        DUE.answers("TURNS 40", 0, () -> x.get(TURNS, 40));
        DUE.answers("PULLS 40", 0, () -> x.get(PULLS, 40));
        DUE.answers("WEAR 40", 0, () -> x.get(WEAR, 40));
        DUE.answers("pass(0, 9)", 40, () -> x.pass(0, 9));
        DUE.answers("seam(0, 39)", 40, () -> x.seam(0, 39));
        DUE.answers("seam(0, 1)", 0, () -> x.seam(0, 1));
    }

    private static void colourBeyondItsRange() {
        DUE.sentence(PASS, "IllegalArgumentException: the colour is not 0 .. 65535");
        for (int colour : new int[] {-1, 65536, LOWEST, HIGHEST}) {
            DUE.refuses("pass(0, " + colour + ")", Looms.ARGUMENT, Looms::worked, x -> x.pass(0, colour));
        }
        for (int colour : new int[] {0, 1, 65534, 65535}) {
            ReelLoom x = lifted(1, 1, 1);
            x.set(LIFTS, 0, 0);
            x.dye(0, 0, 0, -5);
            DUE.answers("pass(0, " + colour + ")", 1, () -> x.pass(0, colour));
            DUE.answers("cell(0, 0) behind it", colour, () -> x.cell(0, 0));
        }
    }

    private static void noClothYet() {
        DUE.sentence(PASS, "IllegalStateException: there is no cloth");
        for (int row : new int[] {0, 1, -1, 40, LOWEST, HIGHEST}) {
            DUE.refuses("pass(" + row + ", 0)", Looms.STATE, ReelLoom::new, x -> x.pass(row, 0));
            DUE.refuses("pass(" + row + ", 65535)", Looms.STATE, Looms::clothless, x -> x.pass(row, 65535));
        }
    }

    private static void noSuchRow() {
        DUE.sentence(PASS, "IndexOutOfBoundsException: it has no such row.");
        for (int row : new int[] {-1, 3, 4, 39, 40, LOWEST, HIGHEST}) {
            DUE.refuses("pass(" + row + ", 9)", Looms.INDEX, Looms::worked, x -> x.pass(row, 9));
        }
        for (int row : new int[] {-1, 0, 1}) {
            DUE.refuses("pass(" + row + ", 9), no rows", Looms.INDEX, () -> Looms.workedOn(0, 4), x -> x.pass(row, 9));
        }
        ReelLoom full = new ReelLoom();
        full.weave(40, 1);
        DUE.refuses("pass(40, 9) of 40 rows", Looms.INDEX, () -> full.pass(40, 9));
        DUE.answers("pass(39, 9) of 40 rows", 0, () -> full.pass(39, 9));
        stopped("a row of 40", full, 1, LIFTS, 0);
    }

    private static void stopOfTheLatestPass() {
        DUE.sentence(STOP, "The STOP of the latest pass: what 0 its KIND, 1 its SORT, 2 its column");
        ReelLoom x = lifted(2, 1, 3);
        x.mount(PULLS, 1);
        x.pass(0, 9);
        stopped("the first pass", x, 2, PULLS, 1);
        x.mount(PULLS, 3);
        x.weave(1, 3);
        x.cut(0);
        stopped("other calls behind it", x, 2, PULLS, 1);
        DUE.refuses("pass(1, 9)", Looms.INDEX, () -> x.pass(1, 9));
        DUE.refuses("pass(0, -1)", Looms.ARGUMENT, () -> x.pass(0, -1));
        stopped("refused passes behind it", x, 2, PULLS, 1);
        x.pass(0, 9);
        stopped("the second pass", x, 1, CLOTH, 0);
        x.weave(1, 2);
        x.pass(0, 9);
        stopped("the third pass", x, 0, 0, 2);
    }

    private static void stopAheadOfAnyPass() {
        DUE.sentence(STOP, "(0 ahead of any pass)");
        ReelLoom x = lifted(2, 1, 3);
        stopped("no pass", x, 0, 0, 0);
        DUE.refuses("pass(1, 9)", Looms.INDEX, () -> x.pass(1, 9));
        stopped("no pass but a refused one", x, 0, 0, 0);
    }

    private static void stopOfAnotherWhat() {
        DUE.sentence(STOP, "IllegalArgumentException: another what.");
        for (int what : new int[] {-1, 3, LOWEST, HIGHEST}) {
            DUE.refuses("stop(" + what + ")", Looms.ARGUMENT, Looms::worked, x -> x.stop(what));
            DUE.refuses("stop(" + what + ") ahead of any pass", Looms.ARGUMENT, ReelLoom::new, x -> x.stop(what));
        }
        ReelLoom x = Looms.worked();
        DUE.answers("stop(0)", 2, () -> x.stop(0));
        DUE.answers("stop(2)", 3, () -> x.stop(2));
    }

    private PassTest() {
    }
}
