/** Promises 10 and 13 to 17: the cloth, its rows and cells, and the sums. */
public final class ClothTest {
    private static final Due DUE = new Due();
    private static final Class<IllegalArgumentException> ARGUMENT = Looms.ARGUMENT;
    private static final Class<IllegalStateException> STATE = Looms.STATE;
    private static final Class<IndexOutOfBoundsException> INDEX = Looms.INDEX;
    private static final Class<UnsupportedOperationException> UNSUPPORTED = Looms.UNSUPPORTED;
    private static final int LOWEST = Looms.LOWEST;
    private static final int HIGHEST = Looms.HIGHEST;
    private static final int CUT = Looms.CUT_ROW;
    /** worked() has rows 0 to 2 and columns 0 to 4. */
    private static final int[] NO_ROWS = {-1, 3, 4, 39, 40, LOWEST, HIGHEST};
    private static final int[] NO_COLUMNS = {-1, 5, 6, 39, 40, LOWEST, HIGHEST};
    private static final String WEAVE = "Promise 10";
    private static final String CUTS = "Promise 13";
    private static final String CELL = "Promise 14";
    private static final String DYE = "Promise 15";
    private static final String SEAM = "Promise 16";
    private static final String SUM = "Promise 17";
    private static final String NO_CLOTH = "IllegalStateException: there is no cloth, or the row is CUT";
    private static final String NO_SUCH = "IndexOutOfBoundsException: there is no such row, or column.";
    private static final String NO_ROW = "IndexOutOfBoundsException: it has no such row.";

    public static void main(String[] args) {
        weaveMakesANewCloth();
        weaveTakesTheOldClothAway();
        weaveAnswersHowManyCells();
        weaveOfTooMany();
        weaveOfTooFew();
        cutAnswersTheColumns();
        cutWithoutAClothOrTwice();
        cutOfNoSuchRow();
        cellOfTheCloth();
        cellWithoutAClothOrCut();
        cellOfNoSuchRowOrColumn();
        dyeAlters();
        dyeWrapsAsInts();
        dyeByTheLowestFiveBits();
        dyePutsAnInt();
        dyeOfOneCell();
        dyeOfAnotherHow();
        dyeWithoutAClothOrCut();
        dyeOfNoSuchRowOrColumn();
        seamCounts();
        seamOfARowWithItself();
        seamOfNoColumnsAndOfAll();
        seamWithoutAClothOrCut();
        seamOfNoSuchRow();
        sumOfTheCells();
        sumOfFullReels();
        sumOfReelsThatAreOff();
        sumOfRowsAndColumns();
        sumOfCutRows();
        sumWithoutACloth();
        sumOfAnotherWhat();
        DUE.end("ClothTest");
    }

    private static void clothIs(String when, ReelLoom x, int rows, int columns, int cut) {
        DUE.answers(when + ": sum(2)", rows, () -> x.sum(2));
        DUE.answers(when + ": sum(3)", columns, () -> x.sum(3));
        DUE.answers(when + ": sum(4)", cut, () -> x.sum(4));
    }

    private static void weaveMakesANewCloth() {
        DUE.sentence(WEAVE, "A new cloth of so many rows and columns");
        for (int rows : new int[] {0, 1, 2, 39, 40}) {
            for (int columns : new int[] {0, 1, 2, 39, 40}) {
                ReelLoom x = new ReelLoom();
                x.weave(rows, columns);
                String when = "weave(" + rows + ", " + columns + ")";
                clothIs(when, x, rows, columns, 0);
                DUE.refuses(when + ": the row beyond", INDEX, () -> x.cell(rows, 0));
                if (rows > 0) {
                    DUE.refuses(when + ": the column beyond", INDEX, () -> x.cell(rows - 1, columns));
                }
                if (rows > 0 && columns > 0) {
                    DUE.answers(when + ": the first cell", 0, () -> x.cell(0, 0));
                    DUE.answers(when + ": the last cell", 0, () -> x.cell(rows - 1, columns - 1));
                }
            }
        }
    }

    private static void weaveTakesTheOldClothAway() {
        DUE.sentence(WEAVE, "(the one that was there is gone)");
        for (int rows : new int[] {1, 2, 39, 40}) {
            for (int columns : new int[] {1, 2, 39, 40}) {
                ReelLoom x = new ReelLoom();
                x.weave(40, 40);
                for (int i = 0; i < 40; i++) {
                    x.dye(i, i, 0, 7);
                    x.dye(i, 39, 0, 7);
                    x.dye(39, i, 0, 7);
                }
                for (int row = 0; row < 40; row++) {
                    x.cut(row);
                }
                x.weave(rows, columns);
                clothIs("weave(" + rows + ", " + columns + ") over a full one", x, rows, columns, 0);
                cellsAreNought(x, rows, columns);
                x.weave(40, 40);
                clothIs("a full one behind " + rows + " x " + columns, x, 40, 40, 0);
                cellsAreNought(x, 40, 40);
            }
        }
    }

    /** Looks at the cells along two sides and the slanting line. */
    private static void cellsAreNought(ReelLoom x, int rows, int columns) {
        for (int i = 0; i < Math.max(rows, columns); i++) {
            int row = Math.min(i, rows - 1);
            int column = Math.min(i, columns - 1);
            DUE.answers("cell(" + row + ", " + column + ")", 0, () -> x.cell(row, column));
            DUE.answers("cell(" + row + ", " + (columns - 1) + ")", 0, () -> x.cell(row, columns - 1));
            DUE.answers("cell(" + (rows - 1) + ", " + column + ")", 0, () -> x.cell(rows - 1, column));
        }
    }

    private static void weaveAnswersHowManyCells() {
        DUE.sentence(WEAVE, "how many cells it has");
        int[][] dues = {{0, 0, 0}, {0, 1, 0}, {1, 0, 0}, {0, 40, 0}, {40, 0, 0}, {1, 1, 1}, {1, 40, 40}, {40, 1, 40},
            {2, 3, 6}, {39, 39, 1521}, {39, 40, 1560}, {40, 39, 1560}, {40, 40, 1600}};
        ReelLoom x = new ReelLoom();
        for (int[] due : dues) {
            DUE.answers("weave(" + due[0] + ", " + due[1] + ")", due[2], () -> x.weave(due[0], due[1]));
        }
    }

    private static void weaveOfTooMany() {
        DUE.sentence(WEAVE, "UnsupportedOperationException: one of both is above 40");
        for (int[] size : new int[][] {{41, 0}, {0, 41}, {41, 1}, {1, 41}, {41, 40}, {40, 41}, {41, 41},
            {HIGHEST, 1}, {1, HIGHEST}, {HIGHEST, HIGHEST}, {65536, 65536}}) {
            String call = "weave(" + size[0] + ", " + size[1] + ")";
            DUE.refuses(call, UNSUPPORTED, Looms::worked, x -> x.weave(size[0], size[1]));
            DUE.refuses(call + " of a new object", UNSUPPORTED, ReelLoom::new, x -> x.weave(size[0], size[1]));
        }
    }

    private static void weaveOfTooFew() {
        DUE.sentence(WEAVE, "IllegalArgumentException: one of both is below 0 (then the cloth that was there stays).");
        for (int[] size : new int[][] {{-1, 0}, {0, -1}, {-1, 1}, {1, -1}, {-1, 40}, {40, -1}, {-1, -1},
            {LOWEST, 1}, {1, LOWEST}, {LOWEST, LOWEST}}) {
            String call = "weave(" + size[0] + ", " + size[1] + ")";
            DUE.refuses(call, ARGUMENT, Looms::worked, x -> x.weave(size[0], size[1]));
            DUE.refuses(call + " of a new object", ARGUMENT, ReelLoom::new, x -> x.weave(size[0], size[1]));
            ReelLoom empty = new ReelLoom();
            empty.weave(0, 3);
            DUE.refuses(call + " over a cloth of no rows", ARGUMENT, () -> empty.weave(size[0], size[1]));
            clothIs("behind " + call, empty, 0, 3, 0);
        }
    }

    private static void cutAnswersTheColumns() {
        DUE.sentence(CUTS, "A row of the cloth is CUT: how many columns it had.");
        for (int rows : new int[] {1, 2, 40}) {
            for (int columns : new int[] {0, 1, 39, 40}) {
                ReelLoom x = new ReelLoom();
                x.weave(rows, columns);
                for (int k = rows - 1; k >= 0; k--) {
                    int row = k;
                    DUE.answers("cut(" + row + ") of " + columns + " columns", columns, () -> x.cut(row));
                    DUE.answers("rows that are CUT", rows - row, () -> x.sum(4));
                }
                DUE.answers("rows in all", rows, () -> x.sum(2));
            }
        }
    }

    private static void cutWithoutAClothOrTwice() {
        DUE.sentence(CUTS, NO_CLOTH);
        for (int row : new int[] {0, 1, -1, 40}) {
            DUE.refuses("cut(" + row + ") without a cloth", STATE, Looms::clothless, x -> x.cut(row));
        }
        DUE.refuses("cut(1) twice", STATE, Looms::worked, x -> x.cut(CUT));
        ReelLoom x = new ReelLoom();
        x.weave(1, 0);
        x.cut(0);
        DUE.refuses("cut(0) twice, no columns", STATE, () -> x.cut(0));
        x.weave(1, 0);
        DUE.answers("cut(0) of a new cloth", 0, () -> x.cut(0));
    }

    private static void cutOfNoSuchRow() {
        DUE.sentence(CUTS, NO_ROW);
        for (int row : NO_ROWS) {
            DUE.refuses("cut(" + row + ")", INDEX, Looms::worked, x -> x.cut(row));
        }
        for (int row : new int[] {-1, 0, 1}) {
            DUE.refuses("cut(" + row + ") of no rows", INDEX, () -> Looms.workedOn(0, 4), x -> x.cut(row));
        }
        ReelLoom full = new ReelLoom();
        full.weave(40, 40);
        DUE.refuses("cut(40) of 40 rows", INDEX, () -> full.cut(40));
        DUE.answers("cut(39) of 40 rows", 40, () -> full.cut(39));
    }

    private static void cellOfTheCloth() {
        DUE.sentence(CELL, "A cell of the cloth.");
        ReelLoom x = Looms.worked();
        DUE.answers("cell(0, 0)", 100000, () -> x.cell(0, 0));
        DUE.answers("cell(0, 4)", 100004, () -> x.cell(0, 4));
        DUE.answers("cell(2, 4)", 300004, () -> x.cell(2, 4));
        ReelLoom full = new ReelLoom();
        full.weave(40, 40);
        full.dye(39, 39, 0, 8);
        DUE.answers("cell(39, 39)", 8, () -> full.cell(39, 39));
        DUE.answers("cell(39, 38)", 0, () -> full.cell(39, 38));
        DUE.answers("cell(38, 39)", 0, () -> full.cell(38, 39));
        DUE.answers("cell(0, 0)", 0, () -> full.cell(0, 0));
    }

    private static void cellWithoutAClothOrCut() {
        DUE.sentence(CELL, NO_CLOTH);
        DUE.refuses("cell(0, 0) without a cloth", STATE, Looms::clothless, x -> x.cell(0, 0));
        for (int column = 0; column < 5; column++) {
            int asked = column;
            DUE.refuses("cell(1, " + asked + ")", STATE, Looms::worked, x -> x.cell(CUT, asked));
        }
    }

    private static void cellOfNoSuchRowOrColumn() {
        DUE.sentence(CELL, NO_SUCH);
        for (int row : NO_ROWS) {
            DUE.refuses("cell(" + row + ", 0)", INDEX, Looms::worked, x -> x.cell(row, 0));
        }
        for (int column : NO_COLUMNS) {
            DUE.refuses("cell(0, " + column + ")", INDEX, Looms::worked, x -> x.cell(0, column));
            DUE.refuses("cell(2, " + column + ")", INDEX, Looms::worked, x -> x.cell(2, column));
        }
        DUE.refuses("cell(0, 0) of no rows", INDEX, () -> Looms.workedOn(0, 4), x -> x.cell(0, 0));
        DUE.refuses("cell(0, 0) of no columns", INDEX, () -> Looms.workedOn(4, 0), x -> x.cell(0, 0));
        ReelLoom full = new ReelLoom();
        full.weave(40, 40);
        DUE.refuses("cell(40, 0) of 40 x 40", INDEX, () -> full.cell(40, 0));
        DUE.refuses("cell(0, 40) of 40 x 40", INDEX, () -> full.cell(0, 40));
        DUE.refuses("cell(1, -1) of 40 x 40", INDEX, () -> full.cell(1, -1));
    }

    private static void dyed(int has, int how, int v, int due) {
        ReelLoom x = new ReelLoom();
        x.weave(1, 1);
        x.dye(0, 0, 0, has);
        DUE.answers("dye(0, 0, " + how + ", " + v + ") of " + has, due, () -> x.dye(0, 0, how, v));
        DUE.answers("cell(0, 0) behind it", due, () -> x.cell(0, 0));
    }

    private static void dyeAlters() {
        DUE.sentence(DYE, "A cell of the cloth is altered as alter() tells (all of how 0 .. 8, any v;");
        dyed(10, 0, 3, 13);
        dyed(10, 1, 3, 7);
        dyed(10, 2, 3, 30);
        dyed(10, 3, 3, 2);
        dyed(10, 4, 3, 11);
        dyed(10, 5, 3, 9);
        dyed(10, 6, 3, 80);
        dyed(10, 7, 3, 1);
        dyed(10, 8, 3, 1);
        dyed(-10, 7, 1, -5);
        dyed(-10, 8, 1, 0x7FFFFFFB);
        dyed(-1, 3, LOWEST, LOWEST);
        dyed(LOWEST, 4, HIGHEST, -1);
        dyed(LOWEST, 5, -1, HIGHEST);
        dyed(1, 6, 31, LOWEST);
        dyed(LOWEST, 7, 31, -1);
        dyed(LOWEST, 8, 31, 1);
    }

    private static void dyeWrapsAsInts() {
        DUE.sentence("Promise 9", "sums, differences and products wrap as ints");
        dyed(HIGHEST, 0, 1, LOWEST);
        dyed(HIGHEST - 1, 0, 1, HIGHEST);
        dyed(LOWEST, 0, -1, HIGHEST);
        dyed(HIGHEST, 0, HIGHEST, -2);
        dyed(LOWEST, 0, LOWEST, 0);
        dyed(LOWEST, 1, 1, HIGHEST);
        dyed(HIGHEST, 1, -1, LOWEST);
        dyed(0, 1, LOWEST, LOWEST);
        dyed(-1, 1, LOWEST, HIGHEST);
        dyed(65536, 2, 65536, 0);
        dyed(65536, 2, 65537, 65536);
        dyed(32768, 2, 65536, LOWEST);
        dyed(LOWEST, 2, -1, LOWEST);
        dyed(HIGHEST, 2, HIGHEST, 1);
        dyed(HIGHEST, 2, 2, -2);
    }

    private static void dyeByTheLowestFiveBits() {
        DUE.sentence("Promise 9", "up and down by the lowest five bits of v");
        for (int v : new int[] {0, 32, -32, 64, LOWEST}) {
            dyed(-6, 6, v, -6);
            dyed(-6, 7, v, -6);
            dyed(-6, 8, v, -6);
        }
        for (int v : new int[] {1, 33, -31, LOWEST + 1}) {
            dyed(-6, 6, v, -12);
            dyed(-6, 7, v, -3);
            dyed(-6, 8, v, 0x7FFFFFFD);
        }
        for (int v : new int[] {31, -1, 63, HIGHEST}) {
            dyed(-5, 6, v, LOWEST);
            dyed(-5, 7, v, -1);
            dyed(-5, 8, v, 1);
        }
    }

    private static void dyePutsAnInt() {
        DUE.sentence(DYE, "what is put into it is an int): what it has then.");
        for (int v : new int[] {0, 1, -1, 65535, 65536, 800001, -800001, LOWEST, HIGHEST}) {
            dyed(0, 0, v, v);
            dyed(0, 4, v, v);
            dyed(0, 5, v, v);
            dyed(1, 2, v, v);
            dyed(-1, 3, v, v);
        }
    }

    private static void dyeOfOneCell() {
        DUE.sentence(DYE, "A cell of the cloth is altered as alter() tells");
        for (int row : new int[] {0, 1, 39}) {
            for (int column : new int[] {0, 1, 39}) {
                ReelLoom x = new ReelLoom();
                x.weave(40, 40);
                DUE.answers("dye(" + row + ", " + column + ", 0, 5)", 5, () -> x.dye(row, column, 0, 5));
                for (int r : new int[] {0, 1, 2, 38, 39}) {
                    for (int c : new int[] {0, 1, 2, 38, 39}) {
                        int due = r == row && c == column ? 5 : 0;
                        DUE.answers("cell(" + r + ", " + c + ") behind it", due, () -> x.cell(r, c));
                    }
                }
            }
        }
    }

    private static void dyeOfAnotherHow() {
        DUE.sentence(DYE, "IllegalArgumentException: another how.");
        for (int how : new int[] {-1, 9, LOWEST, HIGHEST}) {
            DUE.refuses("dye(0, 0, " + how + ", 1)", ARGUMENT, Looms::worked, x -> x.dye(0, 0, how, 1));
            DUE.refuses("dye(2, 4, " + how + ", 0)", ARGUMENT, Looms::worked, x -> x.dye(2, 4, how, 0));
        }
    }

    private static void dyeWithoutAClothOrCut() {
        DUE.sentence(CELL, NO_CLOTH);
        for (int h = 0; h < 9; h++) {
            int how = h;
            DUE.refuses("dye(0, 0, " + how + ", 1) without a cloth", STATE, Looms::clothless, x -> x.dye(0, 0, how, 1));
            DUE.refuses("dye(1, 0, " + how + ", 1)", STATE, Looms::worked, x -> x.dye(CUT, 0, how, 1));
        }
    }

    private static void dyeOfNoSuchRowOrColumn() {
        DUE.sentence(CELL, NO_SUCH);
        for (int row : NO_ROWS) {
            DUE.refuses("dye(" + row + ", 0, 0, 1)", INDEX, Looms::worked, x -> x.dye(row, 0, 0, 1));
        }
        for (int column : NO_COLUMNS) {
            DUE.refuses("dye(0, " + column + ", 8, 1)", INDEX, Looms::worked, x -> x.dye(0, column, 8, 1));
            DUE.refuses("dye(2, " + column + ", 8, 1)", INDEX, Looms::worked, x -> x.dye(2, column, 8, 1));
        }
        DUE.refuses("dye(0, 0, 0, 1) of no rows", INDEX, () -> Looms.workedOn(0, 4), x -> x.dye(0, 0, 0, 1));
        DUE.refuses("dye(0, 0, 0, 1) of no columns", INDEX, () -> Looms.workedOn(4, 0), x -> x.dye(0, 0, 0, 1));
        ReelLoom full = new ReelLoom();
        full.weave(40, 40);
        DUE.refuses("dye(40, 0, 0, 1) of 40 x 40", INDEX, () -> full.dye(40, 0, 0, 1));
        DUE.refuses("dye(0, 40, 0, 1) of 40 x 40", INDEX, () -> full.dye(0, 40, 0, 1));
        DUE.refuses("dye(1, -1, 0, 1) of 40 x 40", INDEX, () -> full.dye(1, -1, 0, 1));
        DUE.answers("the cell ahead of row 1", 0, () -> full.cell(0, 39));
        DUE.answers("the cell behind row 0", 0, () -> full.cell(1, 0));
    }

    private static void seamCounts() {
        DUE.sentence(SEAM, "In how many columns two rows of the cloth have the same.");
        ReelLoom x = new ReelLoom();
        x.weave(3, 4);
        int[][] colours = {{1, 2, 3, 4}, {1, 5, 3, 2}, {65537, HIGHEST, LOWEST, 4}};
        for (int row = 0; row < 3; row++) {
            for (int column = 0; column < 4; column++) {
                x.dye(row, column, 0, colours[row][column]);
            }
        }
        DUE.answers("seam(0, 1)", 2, () -> x.seam(0, 1));
        DUE.answers("seam(1, 0)", 2, () -> x.seam(1, 0));
        DUE.answers("seam(0, 2)", 1, () -> x.seam(0, 2));
        DUE.answers("seam(2, 0)", 1, () -> x.seam(2, 0));
        DUE.answers("seam(1, 2)", 0, () -> x.seam(1, 2));
        x.cut(1);
        DUE.answers("seam(0, 2) beside a row that is CUT", 1, () -> x.seam(0, 2));
        x.dye(0, 0, 0, 65536);
        DUE.answers("seam(0, 2), the first cells alike", 2, () -> x.seam(0, 2));
        x.dye(0, 3, 0, 1);
        DUE.answers("seam(0, 2), the last cells unlike", 1, () -> x.seam(0, 2));
    }

    private static void seamOfARowWithItself() {
        DUE.sentence(SEAM, "In how many columns two rows of the cloth have the same.");
        ReelLoom x = Looms.worked();
        DUE.answers("seam(0, 0)", 5, () -> x.seam(0, 0));
        DUE.answers("seam(2, 2)", 5, () -> x.seam(2, 2));
    }

    private static void seamOfNoColumnsAndOfAll() {
        DUE.sentence(SEAM, "In how many columns two rows of the cloth have the same.");
        for (int columns : new int[] {0, 1, 39, 40}) {
            ReelLoom x = new ReelLoom();
            x.weave(40, columns);
            DUE.answers("seam(0, 39) of " + columns, columns, () -> x.seam(0, 39));
            DUE.answers("seam(39, 0) of " + columns, columns, () -> x.seam(39, 0));
            if (columns > 0) {
                x.dye(39, columns - 1, 0, 1);
                DUE.answers("seam(0, 39), the last column unlike", columns - 1, () -> x.seam(0, 39));
                x.dye(38, 0, 0, 1);
                DUE.answers("seam(0, 38), the first column unlike", columns - 1, () -> x.seam(0, 38));
            }
        }
    }

    private static void seamWithoutAClothOrCut() {
        DUE.sentence(SEAM, "IllegalStateException: there is no cloth, or one of both is CUT");
        DUE.refuses("seam(0, 0) without a cloth", STATE, Looms::clothless, x -> x.seam(0, 0));
        DUE.refuses("seam(-1, 40) without a cloth", STATE, Looms::clothless, x -> x.seam(-1, 40));
        DUE.refuses("seam(1, 0)", STATE, Looms::worked, x -> x.seam(CUT, 0));
        DUE.refuses("seam(0, 1)", STATE, Looms::worked, x -> x.seam(0, CUT));
        DUE.refuses("seam(1, 1)", STATE, Looms::worked, x -> x.seam(CUT, CUT));
        ReelLoom x = new ReelLoom();
        x.weave(2, 0);
        x.cut(0);
        DUE.refuses("seam(0, 1) of no columns", STATE, () -> x.seam(0, 1));
        DUE.refuses("seam(1, 0) of no columns", STATE, () -> x.seam(1, 0));
    }

    private static void seamOfNoSuchRow() {
        DUE.sentence(SEAM, NO_ROW);
        for (int row : NO_ROWS) {
            DUE.refuses("seam(" + row + ", 0)", INDEX, Looms::worked, x -> x.seam(row, 0));
            DUE.refuses("seam(0, " + row + ")", INDEX, Looms::worked, x -> x.seam(0, row));
            DUE.refuses("seam(" + row + ", " + row + ")", INDEX, Looms::worked, x -> x.seam(row, row));
        }
        DUE.refuses("seam(0, 0) of no rows", INDEX, () -> Looms.workedOn(0, 4), x -> x.seam(0, 0));
        ReelLoom full = new ReelLoom();
        full.weave(40, 40);
        DUE.refuses("seam(40, 0) of 40 rows", INDEX, () -> full.seam(40, 0));
        DUE.refuses("seam(0, 40) of 40 rows", INDEX, () -> full.seam(0, 40));
    }

    private static void sumOfTheCells() {
        DUE.sentence(SUM, "of (sort + 1) times their cells, in place order; what 0: that");
        int[] ends = {65535, -32768, -800000, 1, -128};
        int[] dues = {65535, -65536, -2400000, 4, -640};
        for (int k = 0; k < 5; k++) {
            int sort = k;
            for (int n : new int[] {1, 2, 63, 64}) {
                ReelLoom x = new ReelLoom();
                x.mount(sort, n);
                DUE.answers("sum(0), " + n + " cells of 0", 0, () -> x.sum(0));
                x.set(sort, n - 1, ends[sort]);
                DUE.answers("sum(0), the last of " + n + " cells", dues[sort], () -> x.sum(0));
                x.set(sort, 0, 1);
                int first = n == 1 ? 0 : dues[sort];
                DUE.answers("sum(0), the first one too", first + sort + 1, () -> x.sum(0));
                x.copy(sort);
                DUE.answers("sum(0) beside a spare", first + sort + 1, () -> x.sum(0));
                x.mount(sort, 0);
                DUE.answers("sum(0) of an empty reel", 0, () -> x.sum(0));
            }
        }
    }

    private static void sumOfFullReels() {
        DUE.sentence(SUM, "The sum over all five sorts");
        int[] most = {65535, 32767, 800000, 1, 127};
        int[] least = {0, -32768, -800000, 0, -128};
        ReelLoom x = new ReelLoom();
        ReelLoom y = new ReelLoom();
        for (int sort = 0; sort < 5; sort++) {
            x.mount(sort, 64);
            y.mount(sort, 64);
            for (int i = 0; i < 64; i++) {
                x.set(sort, i, most[sort]);
                y.set(sort, i, least[sort]);
            }
        }
        DUE.answers("sum(0) at its most", 64 * (65535 + 2 * 32767 + 3 * 800000 + 4 + 5 * 127), () -> x.sum(0));
        DUE.answers("sum(0) at its least", -64 * (2 * 32768 + 3 * 800000 + 5 * 128), () -> y.sum(0));
        DUE.answers("sum(1)", 0, () -> x.sum(1));
    }

    private static void sumOfReelsThatAreOff() {
        DUE.sentence(SUM, "1: how many of these five are OFF");
        ReelLoom x = new ReelLoom();
        for (int sort = 0; sort < 5; sort++) {
            int before = 5 - sort;
            DUE.answers("sum(1) ahead of mount(" + sort + ", 0)", before, () -> x.sum(1));
            x.mount(sort, 0);
        }
        DUE.answers("sum(1) of empty reels", 0, () -> x.sum(1));
        for (int sort = 0; sort < 5; sort++) {
            int behind = sort + 1;
            x.copy(sort);
            x.off(sort);
            DUE.answers("sum(1) behind off(" + sort + ")", behind, () -> x.sum(1));
        }
        DUE.sentence(SUM, "of the reels that work and are not OFF");
        ReelLoom y = Looms.reel(Looms.WEAR, 2, 7);
        y.swap(Looms.WEAR);
        DUE.answers("sum(0) of a spare", 0, () -> y.sum(0));
        y.swap(Looms.WEAR);
        DUE.answers("sum(0) of one that works", 70, () -> y.sum(0));
        y.off(Looms.WEAR);
        DUE.answers("sum(0) of one that is OFF", 0, () -> y.sum(0));
    }

    private static void sumOfRowsAndColumns() {
        DUE.sentence(SUM, "2: rows of the cloth, 3: its columns");
        ReelLoom x = new ReelLoom();
        for (int[] size : new int[][] {{0, 0}, {0, 40}, {40, 0}, {1, 2}, {39, 40}, {40, 39}, {40, 40}}) {
            x.weave(size[0], size[1]);
            clothIs("weave(" + size[0] + ", " + size[1] + ")", x, size[0], size[1], 0);
        }
    }

    private static void sumOfCutRows() {
        DUE.sentence(SUM, "4: its rows that are CUT");
        ReelLoom x = new ReelLoom();
        x.weave(40, 1);
        for (int row = 0; row < 40; row++) {
            int cut = row + 1;
            x.cut(row);
            DUE.answers("sum(4) behind cut(" + row + ")", cut, () -> x.sum(4));
        }
        DUE.answers("sum(2)", 40, () -> x.sum(2));
        x.weave(40, 1);
        DUE.answers("sum(4) of a new cloth", 0, () -> x.sum(4));
    }

    private static void sumWithoutACloth() {
        DUE.sentence(SUM, "(2 to 4: -1 without a cloth)");
        ReelLoom x = Looms.clothless();
        clothIs("no cloth", x, -1, -1, -1);
        DUE.refuses("weave(-1, 0)", ARGUMENT, () -> x.weave(-1, 0));
        clothIs("no cloth still", x, -1, -1, -1);
        x.weave(0, 0);
        clothIs("a cloth of nothing", x, 0, 0, 0);
    }

    private static void sumOfAnotherWhat() {
        DUE.sentence(SUM, "IllegalArgumentException: another what.");
        for (int what : new int[] {-1, 5, LOWEST, HIGHEST}) {
            DUE.refuses("sum(" + what + ")", ARGUMENT, Looms::worked, x -> x.sum(what));
            DUE.refuses("sum(" + what + ") of a new object", ARGUMENT, ReelLoom::new, x -> x.sum(what));
        }
        ReelLoom x = Looms.worked();
        DUE.answers("sum(1)", 0, () -> x.sum(1));
        DUE.answers("sum(4)", 1, () -> x.sum(4));
    }

    private ClothTest() {
    }
}
