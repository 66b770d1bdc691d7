/** Promise 9: alter. */
public final class AlterTest {
    private static final Due DUE = new Due();
    private static final int THREADS = Looms.THREADS;
    private static final int TURNS = Looms.TURNS;
    private static final int PULLS = Looms.PULLS;
    private static final int LIFTS = Looms.LIFTS;
    private static final int WEAR = Looms.WEAR;
    private static final int LOWEST = Looms.LOWEST;
    private static final int HIGHEST = Looms.HIGHEST;
    private static final String ALTER = "Promise 9";
    private static final String BITS = "bits are those of ints of 32 bits";
    private static final String WRAP = "sums, differences and products wrap as ints";
    private static final String FIVE_BITS = "up and down by the lowest five bits of v";
    private static final String WRONG_HOW = "IllegalArgumentException: also for another how, or v.";

    public static void main(String[] args) {
        altersOneCell();
        sums();
        differences();
        products();
        wrapsAsInts();
        bitsOfBoth();
        bitsOfOneAtLeast();
        bitsOfJustOne();
        bitsAreOfInts();
        bitsUp();
        bitsDown();
        bitsDownWithoutASign();
        lowestFiveBits();
        pullsHowNoughtAndOneAlone();
        pullsByNoMoreThanTheirRange();
        pullsEndAtTheirRange();
        liftsHowThreeToFiveAlone();
        liftsByAnyNumber();
        anotherHow();
        offReel();
        noSuchCell();
        DUE.end("AlterTest");
    }

    private static void altered(int sort, int has, int how, int v, int due) {
        ReelLoom x = new ReelLoom();
        x.mount(sort, 1);
        x.set(sort, 0, has);
        DUE.answers("alter(" + sort + ", 0, " + how + ", " + v + ") of " + has, due, () -> x.alter(sort, 0, how, v));
        DUE.answers("get behind it", due, () -> x.get(sort, 0));
    }

    /** A how that every value of v is fine for, and that makes 1 of a cell's 0 by v 1. */
    private static int plainHow(int sort) {
        return sort == LIFTS ? 4 : 0;
    }

    private static void altersOneCell() {
        DUE.sentence(ALTER, "Cell i of the reel that works is altered: what it has then.");
        for (int k = 0; k < 5; k++) {
            int sort = k;
            for (int n : new int[] {1, 2, 63, 64}) {
                for (int place : new int[] {0, n - 1}) {
                    ReelLoom x = new ReelLoom();
                    x.mount(sort, n);
                    x.copy(sort);
                    DUE.answers("alter at " + place + " of " + n, 1, () -> x.alter(sort, place, plainHow(sort), 1));
                    DUE.answers("get at " + place + " of " + n, 1, () -> x.get(sort, place));
                    DUE.answers("all cells of " + n, sort + 1, () -> x.sum(0));
                    x.swap(sort);
                    DUE.answers("all cells of the spare", 0, () -> x.sum(0));
                }
            }
        }
    }

    private static void sums() {
        DUE.sentence(ALTER, "how 0: a + v");
        altered(THREADS, 65534, 0, 1, 65535);
        altered(THREADS, 65535, 0, 1, 0);
        altered(THREADS, 65535, 0, 0, 65535);
        altered(THREADS, 1, 0, -1, 0);
        altered(THREADS, 0, 0, -1, 65535);
        altered(THREADS, 5, 0, 65536, 5);
        altered(TURNS, 32766, 0, 1, 32767);
        altered(TURNS, 32767, 0, 1, -32768);
        altered(TURNS, -32767, 0, -1, -32768);
        altered(TURNS, -32768, 0, -1, 32767);
        altered(TURNS, 5, 0, -65536, 5);
        altered(PULLS, 799999, 0, 1, 800000);
        altered(PULLS, -799999, 0, -1, -800000);
        altered(PULLS, -800000, 0, 800000, 0);
        altered(WEAR, 126, 0, 1, 127);
        altered(WEAR, 127, 0, 1, -128);
        altered(WEAR, -127, 0, -1, -128);
        altered(WEAR, -128, 0, -1, 127);
        altered(WEAR, 5, 0, 256, 5);
    }

    private static void differences() {
        DUE.sentence(ALTER, "1: a - v");
        altered(THREADS, 1, 1, 1, 0);
        altered(THREADS, 0, 1, 1, 65535);
        altered(THREADS, 65535, 1, -1, 0);
        altered(THREADS, 7, 1, 0, 7);
        altered(TURNS, -32767, 1, 1, -32768);
        altered(TURNS, -32768, 1, 1, 32767);
        altered(TURNS, 32767, 1, -1, -32768);
        altered(PULLS, -799999, 1, 1, -800000);
        altered(PULLS, 799999, 1, -1, 800000);
        altered(PULLS, 800000, 1, 800000, 0);
        altered(PULLS, 3, 1, -4, 7);
        altered(WEAR, -127, 1, 1, -128);
        altered(WEAR, -128, 1, 1, 127);
        altered(WEAR, 127, 1, -1, -128);
    }

    private static void products() {
        DUE.sentence(ALTER, "2: a * v");
        altered(THREADS, 255, 2, 257, 65535);
        altered(THREADS, 256, 2, 256, 0);
        altered(THREADS, 300, 2, 300, 24464);
        altered(THREADS, 3, 2, -1, 65533);
        altered(THREADS, 65535, 2, 65535, 1);
        altered(THREADS, 9, 2, 0, 0);
        altered(TURNS, 32767, 2, -1, -32767);
        altered(TURNS, -32768, 2, -1, -32768);
        altered(TURNS, 16384, 2, 2, -32768);
        altered(TURNS, -16384, 2, 2, -32768);
        altered(WEAR, 16, 2, 16, 0);
        altered(WEAR, 64, 2, 2, -128);
        altered(WEAR, 100, 2, 3, 44);
        altered(WEAR, -128, 2, -1, -128);
    }

    private static void wrapsAsInts() {
        DUE.sentence(ALTER, WRAP);
        altered(THREADS, 65535, 0, HIGHEST, 65534);
        altered(THREADS, 1, 0, HIGHEST, 0);
        altered(THREADS, 0, 1, LOWEST, 0);
        altered(THREADS, 65535, 1, LOWEST, 65535);
        altered(THREADS, 65535, 2, HIGHEST, 1);
        altered(THREADS, 65535, 2, LOWEST, 0);
        altered(TURNS, 32767, 0, HIGHEST, 32766);
        altered(TURNS, -32768, 0, LOWEST, -32768);
        altered(TURNS, -2, 1, HIGHEST, -1);
        altered(TURNS, -32768, 2, LOWEST, 0);
        altered(TURNS, -3, 2, HIGHEST, 3);
        altered(WEAR, 127, 0, HIGHEST, 126);
        altered(WEAR, -128, 1, HIGHEST, -127);
        altered(WEAR, 127, 2, HIGHEST, -127);
    }

    private static void bitsOfBoth() {
        DUE.sentence(ALTER, "3: the bits that both have");
        altered(THREADS, 0xF0F0, 3, 0xFF, 0xF0);
        altered(THREADS, 65535, 3, -1, 65535);
        altered(THREADS, 65535, 3, 0, 0);
        altered(TURNS, -1, 3, 0x7FFF, 32767);
        altered(TURNS, -32768, 3, 32767, 0);
        altered(TURNS, -32768, 3, LOWEST, 0);
        altered(WEAR, -1, 3, 0x7F, 127);
        altered(WEAR, -128, 3, -1, -128);
    }

    private static void bitsOfOneAtLeast() {
        DUE.sentence(ALTER, "4: that one has at least");
        altered(THREADS, 0xF0F0, 4, 0x10F, 0xF1FF);
        altered(THREADS, 0, 4, -1, 65535);
        altered(THREADS, 5, 4, 0x10000, 5);
        altered(TURNS, -32768, 4, 1, -32767);
        altered(TURNS, 1, 4, 32768, -32767);
        altered(WEAR, 1, 4, 0x80, -127);
        altered(WEAR, 0, 4, 256, 0);
    }

    private static void bitsOfJustOne() {
        DUE.sentence(ALTER, "5: that just one has");
        altered(THREADS, 0xF0F0, 5, -1, 0x0F0F);
        altered(THREADS, 65535, 5, 65535, 0);
        altered(TURNS, 5, 5, -1, -6);
        altered(TURNS, -32768, 5, -1, 32767);
        altered(WEAR, 1, 5, 3, 2);
        altered(WEAR, 127, 5, -1, -128);
    }

    /** A cell below 0 has its sign in all upper bits of an int; one of THREADS has none of them. */
    private static void bitsAreOfInts() {
        DUE.sentence(ALTER, BITS);
        altered(TURNS, -1, 8, 16, -1);
        altered(TURNS, -1, 8, 17, 32767);
        altered(TURNS, -32768, 8, 31, 1);
        altered(WEAR, -1, 8, 24, -1);
        altered(WEAR, -1, 8, 25, 127);
        altered(WEAR, -128, 8, 31, 1);
        altered(THREADS, 65535, 8, 16, 0);
        altered(THREADS, 65535, 7, 16, 0);
        altered(THREADS, 32768, 7, 15, 1);
    }

    private static void bitsUp() {
        DUE.sentence(ALTER, "6: a with its bits up by v");
        altered(THREADS, 1, 6, 0, 1);
        altered(THREADS, 1, 6, 15, 32768);
        altered(THREADS, 1, 6, 16, 0);
        altered(THREADS, 65535, 6, 1, 65534);
        altered(THREADS, 65535, 6, 31, 0);
        altered(TURNS, 1, 6, 14, 16384);
        altered(TURNS, 1, 6, 15, -32768);
        altered(TURNS, 1, 6, 16, 0);
        altered(TURNS, -32768, 6, 1, 0);
        altered(WEAR, 1, 6, 6, 64);
        altered(WEAR, 1, 6, 7, -128);
        altered(WEAR, 1, 6, 8, 0);
    }

    private static void bitsDown() {
        DUE.sentence(ALTER, "7: down by v");
        altered(THREADS, 65535, 7, 0, 65535);
        altered(THREADS, 65535, 7, 4, 4095);
        altered(THREADS, 65535, 7, 31, 0);
        altered(TURNS, -32768, 7, 14, -2);
        altered(TURNS, -32768, 7, 15, -1);
        altered(TURNS, -32768, 7, 31, -1);
        altered(TURNS, 32767, 7, 14, 1);
        altered(TURNS, 32767, 7, 15, 0);
        altered(WEAR, -128, 7, 3, -16);
        altered(WEAR, -1, 7, 31, -1);
        altered(WEAR, 127, 7, 7, 0);
    }

    private static void bitsDownWithoutASign() {
        DUE.sentence(ALTER, "8: down by v without a sign");
        altered(THREADS, 65535, 8, 0, 65535);
        altered(THREADS, 65535, 8, 4, 4095);
        altered(THREADS, 65535, 8, 31, 0);
        altered(TURNS, -32768, 8, 0, -32768);
        altered(TURNS, -32768, 8, 1, -16384);
        altered(TURNS, -32768, 8, 17, 32767);
        altered(TURNS, 32767, 8, 14, 1);
        altered(WEAR, -128, 8, 0, -128);
        altered(WEAR, -128, 8, 3, -16);
        altered(WEAR, -2, 8, 25, 127);
        altered(WEAR, 127, 8, 7, 0);
    }

    private static void lowestFiveBits() {
        DUE.sentence(ALTER, FIVE_BITS);
        for (int v : new int[] {1, 33, -31, 65, HIGHEST - 30, LOWEST + 1}) {
            altered(THREADS, 3, 6, v, 6);
            altered(TURNS, -8, 7, v, -4);
            altered(THREADS, 65535, 8, v, 32767);
        }
        for (int v : new int[] {0, 32, -32, 64, LOWEST, HIGHEST - 31}) {
            altered(THREADS, 3, 6, v, 3);
            altered(TURNS, -8, 7, v, -8);
            altered(WEAR, -8, 8, v, -8);
        }
        for (int v : new int[] {31, 63, -1, HIGHEST}) {
            altered(THREADS, 1, 6, v, 0);
            altered(TURNS, -8, 7, v, -1);
            altered(WEAR, -8, 8, v, 1);
        }
    }

    private static void pullsHowNoughtAndOneAlone() {
        DUE.sentence(ALTER, "Of PULLS how 0 and 1 alone");
        altered(PULLS, 10, 0, 3, 13);
        altered(PULLS, 10, 1, 3, 7);
        for (int how : new int[] {-1, 2, 3, 4, 5, 6, 7, 8, 9, LOWEST, HIGHEST}) {
            DUE.refuses("alter(2, 0, " + how + ", 1)", Looms.ARGUMENT, Looms::worked, x -> x.alter(PULLS, 0, how, 1));
            DUE.refuses("alter(2, 0, " + how + ", 0)", Looms.ARGUMENT, Looms::worked, x -> x.alter(PULLS, 0, how, 0));
        }
    }

    private static void pullsByNoMoreThanTheirRange() {
        DUE.sentence(ALTER, "and v is -800000 .. 800000");
        altered(PULLS, 0, 0, 799999, 799999);
        altered(PULLS, 0, 0, 800000, 800000);
        altered(PULLS, 0, 0, -799999, -799999);
        altered(PULLS, 0, 0, -800000, -800000);
        altered(PULLS, 0, 1, 800000, -800000);
        altered(PULLS, 0, 1, -800000, 800000);
        for (int v : new int[] {800001, -800001, LOWEST, HIGHEST}) {
            DUE.refuses("alter(2, 0, 0, " + v + ")", Looms.ARGUMENT, Looms::worked, x -> x.alter(PULLS, 0, 0, v));
            DUE.refuses("alter(2, 0, 1, " + v + ")", Looms.ARGUMENT, Looms::worked, x -> x.alter(PULLS, 0, 1, v));
        }
    }

    private static void pullsEndAtTheirRange() {
        DUE.sentence("Terms", "of PULLS v, but the nearest end of the range if it is beyond");
        altered(PULLS, 800000, 0, 1, 800000);
        altered(PULLS, 800000, 0, 800000, 800000);
        altered(PULLS, 1, 0, 800000, 800000);
        altered(PULLS, -800000, 0, -1, -800000);
        altered(PULLS, -800000, 0, -800000, -800000);
        altered(PULLS, -800000, 1, 1, -800000);
        altered(PULLS, -800000, 1, 800000, -800000);
        altered(PULLS, 800000, 1, -800000, 800000);
    }

    private static void liftsHowThreeToFiveAlone() {
        DUE.sentence(ALTER, "of LIFTS how 3, 4 and 5 alone");
        altered(LIFTS, 1, 3, 1, 1);
        altered(LIFTS, 0, 4, 1, 1);
        altered(LIFTS, 1, 5, 1, 0);
        for (int how : new int[] {-1, 0, 1, 2, 6, 7, 8, 9, LOWEST, HIGHEST}) {
            DUE.refuses("alter(3, 0, " + how + ", 1)", Looms.ARGUMENT, Looms::worked, x -> x.alter(LIFTS, 0, how, 1));
            DUE.refuses("alter(3, 1, " + how + ", 0)", Looms.ARGUMENT, Looms::worked, x -> x.alter(LIFTS, 1, how, 0));
        }
    }

    private static void liftsByAnyNumber() {
        DUE.sentence(ALTER, "and v counts as 1 if it is not 0.");
        for (int v : new int[] {1, 2, -1, -2, 256, 65536, 800001, LOWEST, HIGHEST}) {
            altered(LIFTS, 0, 3, v, 0);
            altered(LIFTS, 1, 3, v, 1);
            altered(LIFTS, 0, 4, v, 1);
            altered(LIFTS, 1, 4, v, 1);
            altered(LIFTS, 0, 5, v, 1);
            altered(LIFTS, 1, 5, v, 0);
        }
        altered(LIFTS, 0, 3, 0, 0);
        altered(LIFTS, 1, 3, 0, 0);
        altered(LIFTS, 0, 4, 0, 0);
        altered(LIFTS, 1, 4, 0, 1);
        altered(LIFTS, 0, 5, 0, 0);
        altered(LIFTS, 1, 5, 0, 1);
    }

    private static void anotherHow() {
        DUE.sentence(ALTER, WRONG_HOW);
        for (int sort : new int[] {THREADS, TURNS, WEAR}) {
            for (int how : new int[] {-1, 9, LOWEST, HIGHEST}) {
                DUE.refuses("alter(" + sort + ", 0, " + how + ", 1)", Looms.ARGUMENT, Looms::worked,
                        x -> x.alter(sort, 0, how, 1));
            }
            altered(sort, 1, 0, 1, 2);
            altered(sort, 4, 8, 1, 2);
        }
    }

    private static void offReel() {
        DUE.sentence("Promise 7", "IllegalStateException: it is OFF (here and below)");
        for (int k = 0; k < 5; k++) {
            int sort = k;
            for (int i : new int[] {0, 1, -1, 64}) {
                String call = "alter(" + sort + ", " + i + ", " + plainHow(sort) + ", 1)";
                DUE.refuses(call, Looms.STATE, ReelLoom::new, x -> x.alter(sort, i, plainHow(sort), 1));
                DUE.refuses(call + " beside a spare", Looms.STATE, () -> Looms.workedWithout(sort),
                        x -> x.alter(sort, i, plainHow(sort), 1));
            }
        }
    }

    private static void noSuchCell() {
        DUE.sentence("Promise 7", "IndexOutOfBoundsException: it has no cell i (here and below).");
        for (int k = 0; k < 5; k++) {
            int sort = k;
            int how = plainHow(sort);
            for (int i : new int[] {-1, sort == TURNS ? 3 : 4, 5, 63, 64, LOWEST, HIGHEST}) {
                DUE.refuses("alter(" + sort + ", " + i + ", " + how + ", 1)", Looms.INDEX, Looms::worked,
                        x -> x.alter(sort, i, how, 1));
            }
            for (int i : new int[] {-1, 0, 64}) {
                DUE.refuses("alter(" + sort + ", " + i + ", " + how + ", 1) of an empty reel", Looms.INDEX,
                        () -> Looms.workedWithEmpty(sort), x -> x.alter(sort, i, how, 1));
            }
            ReelLoom full = new ReelLoom();
            full.mount(sort, 64);
            DUE.refuses("alter at 64 of a full reel", Looms.INDEX, () -> full.alter(sort, 64, how, 1));
            DUE.answers("alter at 63 of a full reel", 1, () -> full.alter(sort, 63, how, 1));
        }
    }

    private AlterTest() {
    }
}
