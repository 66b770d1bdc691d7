/** Promises 1 to 8: a new object, and the reels. */
public final class ReelTest {
    private static final Due DUE = new Due();
    private static final Class<IllegalArgumentException> ARGUMENT = Looms.ARGUMENT;
    private static final Class<IllegalStateException> STATE = Looms.STATE;
    private static final Class<IndexOutOfBoundsException> INDEX = Looms.INDEX;
    private static final int LOWEST = Looms.LOWEST;
    private static final int HIGHEST = Looms.HIGHEST;

    private static final String MOUNT = "Promise 2";
    private static final String OFF = "Promise 3";
    private static final String SWAP = "Promise 4";
    private static final String COPY = "Promise 5";
    private static final String SIZE = "Promise 6";
    private static final String GET = "Promise 7";
    private static final String SET = "Promise 8";

    public static void main(String[] args) {
        newObject();
        for (int sort = 0; sort < 5; sort++) {
            mountMakesAReelOfNoughts(sort);
            mountTakesTheOldReelAway(sort);
            mountAnswersTheLengthBefore(sort);
            mountOfTooFewOrTooManyCells(sort);
            offTakesTheReelAway(sort);
            offAnswersTheLength(sort);
            offOfNone(sort);
            swapWithReelsThatAreOff(sort);
            swapOfFullReels(sort);
            swapOfUnlikeReels(sort);
            swapAnswersTheLengthNow(sort);
            copyIsLikeTheOneThatWorks(sort);
            copyIsAReelOfItsOwn(sort);
            copyOverAnotherSpare(sort);
            copyAnswersTheLength(sort);
            copyOfNone(sort);
            sizeOfBoth(sort);
            sizeOfNone(sort);
            getAtEachEdge(sort);
            getOfNone(sort);
            getOfNoSuchCell(sort);
            setAnswersWhatTheCellHas(sort);
            setOfNone(sort);
            setOfNoSuchCell(sort);
        }
        noSuchSort();
        DUE.end("ReelTest");
    }

    private static void newObject() {
        ReelLoom x = new ReelLoom();
        DUE.sentence("Promise 1", "All reels are off");
        DUE.answers("sum(1)", 5, () -> x.sum(1));
        DUE.answers("sum(0)", 0, () -> x.sum(0));
        for (int k = 0; k < 5; k++) {
            int sort = k;
            DUE.refuses("off(" + sort + ")", STATE, ReelLoom::new, y -> y.off(sort));
            DUE.refuses("copy(" + sort + ")", STATE, ReelLoom::new, y -> y.copy(sort));
            DUE.answers("size(" + sort + ", true)", -1, () -> x.size(sort, true));
        }
        DUE.sentence("Promise 1", "there is no cloth");
        DUE.refuses("cell(0, 0)", STATE, ReelLoom::new, y -> y.cell(0, 0));
        DUE.refuses("cut(0)", STATE, ReelLoom::new, y -> y.cut(0));
        DUE.refuses("pass(0, 0)", STATE, ReelLoom::new, y -> y.pass(0, 0));
        DUE.sentence("Promise 1", "no pass was made.");
        DUE.answers("stop(0)", 0, () -> x.stop(0));
        DUE.answers("stop(1)", 0, () -> x.stop(1));
        DUE.answers("stop(2)", 0, () -> x.stop(2));
    }

    private static void cells(String when, ReelLoom x, int sort, int cells, int due) {
        DUE.answers(when + ": size(" + sort + ", false)", cells, () -> x.size(sort, false));
        for (int k = 0; k < cells; k++) {
            int i = k;
            DUE.answers(when + ": get(" + sort + ", " + i + ")", due, () -> x.get(sort, i));
        }
        DUE.refuses(when + ": get(" + sort + ", " + cells + ")", INDEX, () -> x.get(sort, cells));
    }

    private static void mountMakesAReelOfNoughts(int sort) {
        DUE.sentence(MOUNT, "A new reel of n cells, all 0, works from now on");
        for (int n : new int[] {0, 1, 63, 64}) {
            ReelLoom x = new ReelLoom();
            x.mount(sort, n);
            cells("mount of " + n, x, sort, n, 0);
            DUE.answers("the spare beside " + n, -1, () -> x.size(sort, true));
            DUE.answers("reels that are off beside " + n, 4, () -> x.sum(1));
        }
    }

    private static void mountTakesTheOldReelAway(int sort) {
        DUE.sentence(MOUNT, "(the one that worked is gone)");
        for (int n : new int[] {0, 1, 63, 64}) {
            ReelLoom x = Looms.reel(sort, 63, 1);
            x.copy(sort);
            x.mount(sort, n);
            cells("63 cells of 1, then mount of " + n, x, sort, n, 0);
            x.mount(sort, 64);
            cells("64 cells behind " + n, x, sort, 64, 0);
            x.swap(sort);
            cells("the spare stays behind " + n, x, sort, 63, 1);
        }
    }

    private static void mountAnswersTheLengthBefore(int sort) {
        DUE.sentence(MOUNT, "how many cells that had, -1 if it was OFF");
        ReelLoom x = new ReelLoom();
        DUE.answers("mount on none", -1, () -> x.mount(sort, 64));
        DUE.answers("mount on 64", 64, () -> x.mount(sort, 63));
        DUE.answers("mount on 63", 63, () -> x.mount(sort, 0));
        DUE.answers("mount on 0", 0, () -> x.mount(sort, 1));
        DUE.answers("mount on 1", 1, () -> x.mount(sort, 2));
        x.off(sort);
        DUE.answers("mount behind off", -1, () -> x.mount(sort, 3));
        x.swap(sort);
        DUE.answers("mount behind a swap with none", -1, () -> x.mount(sort, 4));
        x.swap(sort);
        DUE.answers("mount on the one that was spare", 3, () -> x.mount(sort, 4));
    }

    private static void mountOfTooFewOrTooManyCells(int sort) {
        DUE.sentence(MOUNT, "n is not 0 .. 64");
        for (int n : new int[] {-1, 65, -64, 128, LOWEST, HIGHEST}) {
            String call = "mount(" + sort + ", " + n + ")";
            DUE.refuses(call, ARGUMENT, Looms::worked, x -> x.mount(sort, n));
            DUE.refuses(call + " on none", ARGUMENT, ReelLoom::new, x -> x.mount(sort, n));
        }
        for (int n : new int[] {0, 1, 63, 64}) {
            ReelLoom x = new ReelLoom();
            DUE.answers("mount(" + sort + ", " + n + ")", -1, () -> x.mount(sort, n));
        }
    }

    private static void offTakesTheReelAway(int sort) {
        DUE.sentence(OFF, "The reel that works is OFF from now on (it is gone)");
        ReelLoom x = Looms.reel(sort, 64, 1);
        x.copy(sort);
        x.off(sort);
        DUE.answers("size(" + sort + ", false)", -1, () -> x.size(sort, false));
        DUE.answers("size(" + sort + ", true)", 64, () -> x.size(sort, true));
        DUE.refuses("get(" + sort + ", 0)", STATE, () -> x.get(sort, 0));
        DUE.answers("sum(0)", 0, () -> x.sum(0));
        DUE.answers("sum(1)", 5, () -> x.sum(1));
        x.mount(sort, 64);
        cells("mounted anew", x, sort, 64, 0);
        x.swap(sort);
        cells("the spare", x, sort, 64, 1);
    }

    private static void offAnswersTheLength(int sort) {
        DUE.sentence(OFF, "how many cells it had");
        for (int n : new int[] {0, 1, 63, 64}) {
            ReelLoom x = new ReelLoom();
            x.mount(sort, n);
            DUE.answers("off(" + sort + ") of " + n, n, () -> x.off(sort));
        }
    }

    private static void offOfNone(int sort) {
        DUE.sentence(OFF, "IllegalStateException: it is OFF.");
        DUE.refuses("off(" + sort + ") of a new object", STATE, ReelLoom::new, x -> x.off(sort));
        DUE.refuses("off(" + sort + ") again, beside a spare", STATE, () -> Looms.workedWithout(sort), x -> x.off(sort));
        ReelLoom x = new ReelLoom();
        x.mount(sort, 0);
        x.swap(sort);
        DUE.refuses("off(" + sort + ") behind a swap with none", STATE, () -> x.off(sort));
        x.swap(sort);
        DUE.answers("off(" + sort + ") of an empty reel", 0, () -> x.off(sort));
    }

    private static void swapWithReelsThatAreOff(int sort) {
        DUE.sentence(SWAP, "The reel that works and the spare one change places (either may be OFF)");
        ReelLoom x = new ReelLoom();
        DUE.answers("both are off", -1, () -> x.swap(sort));
        DUE.answers("both are off: works", -1, () -> x.size(sort, false));
        DUE.answers("both are off: spare", -1, () -> x.size(sort, true));
        x.mount(sort, 2);
        x.set(sort, 1, 1);
        DUE.answers("the spare is off", -1, () -> x.swap(sort));
        DUE.answers("the spare was off: works", -1, () -> x.size(sort, false));
        DUE.answers("the spare was off: spare", 2, () -> x.size(sort, true));
        DUE.refuses("the spare was off: get", STATE, () -> x.get(sort, 1));
        DUE.answers("the one that works is off", 2, () -> x.swap(sort));
        DUE.answers("the one that works was off: works", 2, () -> x.size(sort, false));
        DUE.answers("the one that works was off: spare", -1, () -> x.size(sort, true));
        DUE.answers("the one that works was off: get(0)", 0, () -> x.get(sort, 0));
        DUE.answers("the one that works was off: get(1)", 1, () -> x.get(sort, 1));
        DUE.answers("the other sorts are off still", 4, () -> x.sum(1));
    }

    private static void swapOfFullReels(int sort) {
        DUE.sentence(SWAP, "The reel that works and the spare one change places (either may be OFF)");
        ReelLoom x = Looms.reel(sort, 64, 1);
        x.swap(sort);
        x.mount(sort, 64);
        x.swap(sort);
        cells("the first of two full ones", x, sort, 64, 1);
        x.swap(sort);
        cells("the other of two full ones", x, sort, 64, 0);
        x.swap(sort);
        cells("the first again", x, sort, 64, 1);
    }

    private static void swapOfUnlikeReels(int sort) {
        DUE.sentence(SWAP, "The reel that works and the spare one change places (either may be OFF)");
        for (int n : new int[] {0, 1, 63}) {
            ReelLoom x = Looms.reel(sort, n, 1);
            x.swap(sort);
            x.mount(sort, 64);
            x.swap(sort);
            cells("the short one", x, sort, n, 1);
            DUE.answers("the long one is spare", 64, () -> x.size(sort, true));
            x.swap(sort);
            cells("the long one", x, sort, 64, 0);
            DUE.answers("the short one is spare", n, () -> x.size(sort, true));
        }
    }

    private static void swapAnswersTheLengthNow(int sort) {
        DUE.sentence(SWAP, "how many cells the one has that works now, -1 if it is OFF.");
        for (int n : new int[] {0, 1, 63, 64}) {
            ReelLoom x = new ReelLoom();
            x.mount(sort, n);
            DUE.answers("swap of " + n + " with none", -1, () -> x.swap(sort));
            x.mount(sort, 5);
            DUE.answers("swap of 5 with " + n, n, () -> x.swap(sort));
            DUE.answers("swap of " + n + " with 5", 5, () -> x.swap(sort));
            x.off(sort);
            DUE.answers("swap of none with " + n, n, () -> x.swap(sort));
        }
    }

    private static void copyIsLikeTheOneThatWorks(int sort) {
        DUE.sentence(COPY, "The spare one becomes a new reel like the one that works");
        for (int n : new int[] {0, 1, 63, 64}) {
            ReelLoom x = Looms.reel(sort, n, 1);
            x.copy(sort);
            cells("the one that works, of " + n, x, sort, n, 1);
            x.swap(sort);
            cells("the copy of " + n, x, sort, n, 1);
        }
    }

    private static void copyIsAReelOfItsOwn(int sort) {
        DUE.sentence(COPY, "The spare one becomes a new reel like the one that works");
        ReelLoom x = Looms.reel(sort, 64, 1);
        x.copy(sort);
        x.set(sort, 0, 0);
        x.set(sort, 63, 0);
        x.swap(sort);
        cells("the copy, the other one being altered", x, sort, 64, 1);
        x.set(sort, 5, 0);
        x.swap(sort);
        DUE.answers("the one that was copied: get(0)", 0, () -> x.get(sort, 0));
        DUE.answers("the one that was copied: get(5)", 1, () -> x.get(sort, 5));
        DUE.answers("the one that was copied: get(63)", 0, () -> x.get(sort, 63));
    }

    private static void copyOverAnotherSpare(int sort) {
        DUE.sentence(COPY, "The spare one becomes a new reel like the one that works");
        for (int n : new int[] {0, 1, 64}) {
            for (int before : new int[] {0, 1, 64}) {
                ReelLoom x = Looms.reel(sort, before, 1);
                x.swap(sort);
                x.mount(sort, n);
                x.copy(sort);
                cells("works, a copy of " + n + " over " + before, x, sort, n, 0);
                x.swap(sort);
                cells("a copy of " + n + " over " + before, x, sort, n, 0);
            }
        }
    }

    private static void copyAnswersTheLength(int sort) {
        DUE.sentence(COPY, "how many cells it has");
        for (int n : new int[] {0, 1, 63, 64}) {
            ReelLoom x = new ReelLoom();
            x.mount(sort, n);
            DUE.answers("copy(" + sort + ") of " + n, n, () -> x.copy(sort));
            DUE.answers("size(" + sort + ", true)", n, () -> x.size(sort, true));
        }
    }

    private static void copyOfNone(int sort) {
        DUE.sentence(COPY, "IllegalStateException: that is OFF.");
        DUE.refuses("copy(" + sort + ") of a new object", STATE, ReelLoom::new, x -> x.copy(sort));
        DUE.refuses("copy(" + sort + ") over a spare", STATE, () -> Looms.workedWithout(sort), x -> x.copy(sort));
        ReelLoom x = new ReelLoom();
        x.mount(sort, 0);
        DUE.answers("copy(" + sort + ") of an empty reel", 0, () -> x.copy(sort));
    }

    private static void sizeOfBoth(int sort) {
        DUE.sentence(SIZE, "How many cells a reel has (spare: the spare one, else the one that works)");
        for (int n : new int[] {0, 1, 63, 64}) {
            ReelLoom x = new ReelLoom();
            x.mount(sort, n);
            x.swap(sort);
            x.mount(sort, 7);
            DUE.answers("size(" + sort + ", true) of " + n, n, () -> x.size(sort, true));
            DUE.answers("size(" + sort + ", false) of 7", 7, () -> x.size(sort, false));
            x.swap(sort);
            DUE.answers("size(" + sort + ", true) of 7", 7, () -> x.size(sort, true));
            DUE.answers("size(" + sort + ", false) of " + n, n, () -> x.size(sort, false));
        }
    }

    private static void sizeOfNone(int sort) {
        DUE.sentence(SIZE, "-1 if it is OFF.");
        ReelLoom x = new ReelLoom();
        DUE.answers("new: size(" + sort + ", false)", -1, () -> x.size(sort, false));
        DUE.answers("new: size(" + sort + ", true)", -1, () -> x.size(sort, true));
        x.mount(sort, 0);
        DUE.answers("size(" + sort + ", true) beside one that works", -1, () -> x.size(sort, true));
        x.copy(sort);
        x.off(sort);
        DUE.answers("size(" + sort + ", false) beside a spare", -1, () -> x.size(sort, false));
        DUE.answers("size(" + sort + ", true) of it", 0, () -> x.size(sort, true));
    }

    private static void getAtEachEdge(int sort) {
        DUE.sentence(GET, "Cell i of the reel that works.");
        for (int n : new int[] {1, 2, 63, 64}) {
            for (int place : new int[] {0, n - 1}) {
                ReelLoom x = new ReelLoom();
                x.mount(sort, n);
                x.set(sort, place, 1);
                for (int k = 0; k < n; k++) {
                    int i = k;
                    DUE.answers("get(" + sort + ", " + i + ") of " + n, i == place ? 1 : 0, () -> x.get(sort, i));
                }
            }
        }
    }

    private static void getOfNone(int sort) {
        DUE.sentence(GET, "IllegalStateException: it is OFF (here and below)");
        for (int i : new int[] {0, 1, -1, 64}) {
            String call = "get(" + sort + ", " + i + ")";
            DUE.refuses(call, STATE, ReelLoom::new, x -> x.get(sort, i));
            DUE.refuses(call + " beside a spare", STATE, () -> Looms.workedWithout(sort), x -> x.get(sort, i));
        }
    }

    /** The places that a reel of worked() has not: it has 4 cells, of TURNS 3; its spare has 2. */
    private static int[] noPlaces(int sort) {
        return new int[] {-1, sort == Looms.TURNS ? 3 : 4, 5, 63, 64, -64, LOWEST, HIGHEST};
    }

    private static void getOfNoSuchCell(int sort) {
        DUE.sentence(GET, "IndexOutOfBoundsException: it has no cell i (here and below).");
        for (int i : noPlaces(sort)) {
            DUE.refuses("get(" + sort + ", " + i + ")", INDEX, Looms::worked, x -> x.get(sort, i));
        }
        for (int i : new int[] {-1, 0, 1, 64}) {
            DUE.refuses("get(" + sort + ", " + i + ") of an empty reel", INDEX,
                    () -> Looms.workedWithEmpty(sort), x -> x.get(sort, i));
        }
        ReelLoom full = Looms.reel(sort, 64, 1);
        DUE.answers("get(" + sort + ", 63) of a full reel", 1, () -> full.get(sort, 63));
        DUE.refuses("get(" + sort + ", 64) of a full reel", INDEX, () -> full.get(sort, 64));
        DUE.refuses("get(" + sort + ", -1) of a full reel", INDEX, () -> full.get(sort, -1));
    }

    private static void setAnswersWhatTheCellHas(int sort) {
        DUE.sentence(SET, "v is put into cell i of the reel that works: what the cell has then.");
        int[] first = {65535, -32768, -800000, 1, -128};
        int[] last = {0, 32767, 800000, 1, 127};
        int[] beyond = {65536, 32768, 800001, 2, 128};
        int[] fromBeyond = {0, -32768, 800000, 1, -128};
        for (int n : new int[] {1, 2, 63, 64}) {
            ReelLoom x = new ReelLoom();
            x.mount(sort, n);
            x.copy(sort);
            DUE.answers("set at the first place of " + n, first[sort], () -> x.set(sort, 0, first[sort]));
            DUE.answers("get at the first place of " + n, first[sort], () -> x.get(sort, 0));
            DUE.answers("set at the last place of " + n, last[sort], () -> x.set(sort, n - 1, last[sort]));
            DUE.answers("get at the last place of " + n, last[sort], () -> x.get(sort, n - 1));
            DUE.answers("set of a number beyond", fromBeyond[sort], () -> x.set(sort, n - 1, beyond[sort]));
            DUE.answers("get of a number beyond", fromBeyond[sort], () -> x.get(sort, n - 1));
            DUE.answers("set of 0", 0, () -> x.set(sort, n - 1, 0));
            x.swap(sort);
            cells("the spare stays", x, sort, n, 0);
        }
    }

    private static void setOfNone(int sort) {
        DUE.sentence(GET, "IllegalStateException: it is OFF (here and below)");
        for (int i : new int[] {0, 1, -1, 64}) {
            String call = "set(" + sort + ", " + i + ", 1)";
            DUE.refuses(call, STATE, ReelLoom::new, x -> x.set(sort, i, 1));
            DUE.refuses(call + " beside a spare", STATE, () -> Looms.workedWithout(sort), x -> x.set(sort, i, 1));
        }
    }

    private static void setOfNoSuchCell(int sort) {
        DUE.sentence(GET, "IndexOutOfBoundsException: it has no cell i (here and below).");
        for (int i : noPlaces(sort)) {
            DUE.refuses("set(" + sort + ", " + i + ", 1)", INDEX, Looms::worked, x -> x.set(sort, i, 1));
        }
        for (int i : new int[] {-1, 0, 1, 64}) {
            DUE.refuses("set(" + sort + ", " + i + ", 1) of an empty reel", INDEX,
                    () -> Looms.workedWithEmpty(sort), x -> x.set(sort, i, 1));
        }
        ReelLoom full = new ReelLoom();
        full.mount(sort, 64);
        DUE.answers("set(" + sort + ", 63, 1) of a full reel", 1, () -> full.set(sort, 63, 1));
        DUE.refuses("set(" + sort + ", 64, 1) of a full reel", INDEX, () -> full.set(sort, 64, 1));
        DUE.refuses("set(" + sort + ", -1, 1) of a full reel", INDEX, () -> full.set(sort, -1, 1));
    }

    private static void noSuchSort() {
        DUE.sentence(MOUNT, "IllegalArgumentException: there is no such sort (here and below)");
        for (int sort : new int[] {-1, 5, 6, LOWEST, HIGHEST}) {
            DUE.refuses("mount(" + sort + ", 1)", ARGUMENT, Looms::worked, x -> x.mount(sort, 1));
            DUE.refuses("off(" + sort + ")", ARGUMENT, Looms::worked, x -> x.off(sort));
            DUE.refuses("swap(" + sort + ")", ARGUMENT, Looms::worked, x -> x.swap(sort));
            DUE.refuses("copy(" + sort + ")", ARGUMENT, Looms::worked, x -> x.copy(sort));
            DUE.refuses("size(" + sort + ", false)", ARGUMENT, Looms::worked, x -> x.size(sort, false));
            DUE.refuses("size(" + sort + ", true)", ARGUMENT, Looms::worked, x -> x.size(sort, true));
            DUE.refuses("get(" + sort + ", 0)", ARGUMENT, Looms::worked, x -> x.get(sort, 0));
            DUE.refuses("set(" + sort + ", 0, 1)", ARGUMENT, Looms::worked, x -> x.set(sort, 0, 1));
            for (int h = 0; h < 9; h++) {
                int how = h;
                DUE.refuses("alter(" + sort + ", 0, " + how + ", 1)", ARGUMENT, Looms::worked,
                        x -> x.alter(sort, 0, how, 1));
            }
        }
    }

    private ReelTest() {
    }
}
