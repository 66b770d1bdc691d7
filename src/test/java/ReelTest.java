/** Promises 1 to 9: a new object, and the reels. */
public final class ReelTest {
    private static final Due DUE = new Due();
    private static final Class<IllegalArgumentException> ARGUMENT = IllegalArgumentException.class;
    private static final Class<IllegalStateException> STATE = IllegalStateException.class;
    private static final Class<IndexOutOfBoundsException> INDEX = IndexOutOfBoundsException.class;
    private static final int[] NO_SORTS = {-1, 5, 6, 64, Integer.MIN_VALUE, Integer.MAX_VALUE};
    private static final int PULLS = 2;
    private static final int LIFTS = 3;

    public static void main(String[] args) {
        newObject();
        mountAnswersTheLengthBefore();
        mountMakesANewReelOfNoughts();
        mountRefuses();
        offTakesTheWorkingReelAlone();
        swapChangesPlaces();
        copyMakesAReelOfItsOwn();
        sizeTellsBoth();
        getAndSetRefuse();
        setFitsTheNumber();
        alterCombines();
        alterOfPulls();
        alterOfLifts();
        alterRefuses();
        noSuchSortComesFirst();
        refusedCallsChangeNothing();
        DUE.end("ReelTest");
    }

    private static void newObject() {
        ReelLoom x = new ReelLoom();
        for (int k = 0; k < 5; k++) {
            int sort = k;
            DUE.answers("new: size(" + sort + ", false)", -1, () -> x.size(sort, false));
            DUE.answers("new: size(" + sort + ", true)", -1, () -> x.size(sort, true));
            DUE.refuses("new: get(" + sort + ", 0)", STATE, () -> x.get(sort, 0));
        }
        DUE.answers("new: sum(0)", 0, () -> x.sum(0));
        DUE.answers("new: sum(1)", 5, () -> x.sum(1));
        DUE.answers("new: sum(2)", -1, () -> x.sum(2));
        DUE.answers("new: sum(3)", -1, () -> x.sum(3));
        DUE.answers("new: sum(4)", -1, () -> x.sum(4));
        DUE.refuses("new: cell(0, 0)", STATE, () -> x.cell(0, 0));
        for (int what = 0; what < 3; what++) {
            int asked = what;
            DUE.answers("new: stop(" + what + ")", 0, () -> x.stop(asked));
        }
    }

    private static void mountAnswersTheLengthBefore() {
        for (int k = 0; k < 5; k++) {
            int sort = k;
            ReelLoom x = new ReelLoom();
            DUE.answers("mount on none", -1, () -> x.mount(sort, 64));
            DUE.answers("mount on 64", 64, () -> x.mount(sort, 0));
            DUE.answers("mount on 0", 0, () -> x.mount(sort, 3));
            DUE.answers("mount on 3", 3, () -> x.mount(sort, 1));
            DUE.answers("size after mount", 1, () -> x.size(sort, false));
            DUE.answers("spare after mount", -1, () -> x.size(sort, true));
            DUE.answers("others after mount", 4, () -> x.sum(1));
        }
    }

    private static void mountMakesANewReelOfNoughts() {
        for (int k = 0; k < 5; k++) {
            int sort = k;
            ReelLoom x = new ReelLoom();
            x.mount(sort, 64);
            DUE.answers("first cell", 0, () -> x.get(sort, 0));
            DUE.answers("last cell", 0, () -> x.get(sort, 63));
            x.set(sort, 0, 1);
            x.set(sort, 63, 1);
            DUE.answers("shorter", 64, () -> x.mount(sort, 1));
            DUE.answers("first cell anew", 0, () -> x.get(sort, 0));
            DUE.refuses("last cell gone", INDEX, () -> x.get(sort, 63));
            DUE.answers("longer", 1, () -> x.mount(sort, 64));
            DUE.answers("last cell anew", 0, () -> x.get(sort, 63));
            x.set(sort, 5, 1);
            x.off(sort);
            x.mount(sort, 64);
            DUE.answers("anew after off", 0, () -> x.get(sort, 5));
        }
    }

    private static void mountRefuses() {
        ReelLoom x = new ReelLoom();
        x.mount(1, 2);
        x.set(1, 0, 9);
        for (int n : new int[] {-1, 65, Integer.MIN_VALUE, Integer.MAX_VALUE}) {
            DUE.refuses("mount(1, " + n + ")", ARGUMENT, () -> x.mount(1, n));
        }
        DUE.answers("the reel stays", 2, () -> x.size(1, false));
        DUE.answers("its cell stays", 9, () -> x.get(1, 0));
    }

    private static void offTakesTheWorkingReelAlone() {
        for (int k = 0; k < 5; k++) {
            int sort = k;
            ReelLoom x = new ReelLoom();
            DUE.refuses("off of none", STATE, () -> x.off(sort));
            x.mount(sort, 3);
            x.set(sort, 2, 1);
            x.copy(sort);
            DUE.answers("off", 3, () -> x.off(sort));
            DUE.answers("off: size", -1, () -> x.size(sort, false));
            DUE.answers("off: spare stays", 3, () -> x.size(sort, true));
            DUE.refuses("off twice", STATE, () -> x.off(sort));
            DUE.answers("the spare works", 3, () -> x.swap(sort));
            DUE.answers("the spare's cell", 1, () -> x.get(sort, 2));
            x.mount(sort, 0);
            DUE.answers("off of an empty reel", 0, () -> x.off(sort));
        }
    }

    private static void swapChangesPlaces() {
        for (int k = 0; k < 5; k++) {
            int sort = k;
            ReelLoom x = new ReelLoom();
            DUE.answers("swap of none with none", -1, () -> x.swap(sort));
            x.mount(sort, 2);
            x.set(sort, 0, 1);
            DUE.answers("swap with none", -1, () -> x.swap(sort));
            DUE.answers("swapped: works", -1, () -> x.size(sort, false));
            DUE.answers("swapped: spare", 2, () -> x.size(sort, true));
            DUE.answers("mount beside the spare", -1, () -> x.mount(sort, 64));
            x.set(sort, 63, 1);
            DUE.answers("swap back", 2, () -> x.swap(sort));
            DUE.answers("first reel's cell 0", 1, () -> x.get(sort, 0));
            DUE.answers("first reel's cell 1", 0, () -> x.get(sort, 1));
            DUE.answers("swap again", 64, () -> x.swap(sort));
            DUE.answers("other reel's cell 0", 0, () -> x.get(sort, 0));
            DUE.answers("other reel's cell 63", 1, () -> x.get(sort, 63));
            DUE.answers("other sorts", 4, () -> x.sum(1));
        }
    }

    private static void copyMakesAReelOfItsOwn() {
        for (int k = 0; k < 5; k++) {
            int sort = k;
            ReelLoom x = new ReelLoom();
            DUE.refuses("copy of none", STATE, () -> x.copy(sort));
            x.mount(sort, 64);
            x.set(sort, 0, 1);
            x.set(sort, 63, 1);
            DUE.answers("copy", 64, () -> x.copy(sort));
            x.set(sort, 0, 0);
            x.swap(sort);
            DUE.answers("the copy's cell 0 stays", 1, () -> x.get(sort, 0));
            DUE.answers("the copy's cell 63", 1, () -> x.get(sort, 63));
            x.set(sort, 63, 0);
            x.swap(sort);
            DUE.answers("the copied cell 0", 0, () -> x.get(sort, 0));
            DUE.answers("the copied cell 63 stays", 1, () -> x.get(sort, 63));
            x.mount(sort, 0);
            DUE.answers("copy of an empty reel", 0, () -> x.copy(sort));
            DUE.answers("its size", 0, () -> x.size(sort, true));
            x.off(sort);
            DUE.refuses("copy of a reel that is off", STATE, () -> x.copy(sort));
            DUE.answers("the spare stays", 0, () -> x.size(sort, true));
        }
    }

    private static void sizeTellsBoth() {
        ReelLoom x = new ReelLoom();
        x.mount(4, 7);
        x.copy(4);
        x.mount(4, 5);
        DUE.answers("size(4, false)", 5, () -> x.size(4, false));
        DUE.answers("size(4, true)", 7, () -> x.size(4, true));
        DUE.answers("size(3, true)", -1, () -> x.size(3, true));
    }

    private static void getAndSetRefuse() {
        for (int k = 0; k < 5; k++) {
            int sort = k;
            ReelLoom x = new ReelLoom();
            DUE.refuses("get of none", STATE, () -> x.get(sort, -1));
            DUE.refuses("set of none", STATE, () -> x.set(sort, 64, 1));
            x.mount(sort, 0);
            DUE.refuses("get of an empty reel", INDEX, () -> x.get(sort, 0));
            DUE.refuses("set of an empty reel", INDEX, () -> x.set(sort, 0, 1));
            x.mount(sort, 3);
            for (int place : new int[] {-1, 3, 64, -64, Integer.MIN_VALUE, Integer.MAX_VALUE}) {
                DUE.refuses("get at " + place, INDEX, () -> x.get(sort, place));
                DUE.refuses("set at " + place, INDEX, () -> x.set(sort, place, 1));
            }
            DUE.answers("set at the last place", 1, () -> x.set(sort, 2, 1));
            DUE.answers("get at the last place", 1, () -> x.get(sort, 2));
            DUE.answers("get beside it", 0, () -> x.get(sort, 1));
        }
    }

    private static void setFitsTheNumber() {
        int lowest = Integer.MIN_VALUE;
        int highest = Integer.MAX_VALUE;
        int[][] threads = {{0, 0}, {65535, 65535}, {65536, 0}, {-1, 65535}, {highest, 65535}, {lowest, 0}, {-65537, 65535}};
        int[][] turns = {{32767, 32767}, {32768, -32768}, {-32768, -32768}, {-32769, 32767}, {65536, 0}, {highest, -1}, {lowest, 0}};
        int[][] pulls = {{800000, 800000}, {800001, 800000}, {-800000, -800000}, {-800001, -800000}, {-5, -5}, {highest, 800000}, {lowest, -800000}};
        int[][] lifts = {{0, 0}, {1, 1}, {2, 1}, {-1, 1}, {65536, 1}, {256, 1}, {highest, 1}, {lowest, 1}};
        int[][] wear = {{127, 127}, {128, -128}, {-128, -128}, {-129, 127}, {256, 0}, {255, -1}, {highest, -1}, {lowest, 0}};
        int[][][] bySort = {threads, turns, pulls, lifts, wear};
        for (int k = 0; k < 5; k++) {
            int sort = k;
            ReelLoom x = new ReelLoom();
            x.mount(sort, 2);
            for (int[] pair : bySort[sort]) {
                DUE.answers("set(" + sort + ", 1, " + pair[0] + ")", pair[1], () -> x.set(sort, 1, pair[0]));
                DUE.answers("get behind it", pair[1], () -> x.get(sort, 1));
            }
            DUE.answers("the cell beside it", 0, () -> x.get(sort, 0));
        }
    }

    private static void altered(int sort, int has, int how, int v, int due) {
        ReelLoom x = new ReelLoom();
        x.mount(sort, 1);
        x.set(sort, 0, has);
        DUE.answers("alter(" + sort + ", 0, " + how + ", " + v + ") of " + has, due, () -> x.alter(sort, 0, how, v));
        DUE.answers("get behind it", due, () -> x.get(sort, 0));
    }

    private static void alterCombines() {
        altered(0, 65535, 0, 1, 0);
        altered(0, 65535, 0, Integer.MAX_VALUE, 65534);
        altered(0, 0, 1, 1, 65535);
        altered(0, 300, 2, 300, 90000 - 65536);
        altered(0, 65535, 2, Integer.MAX_VALUE, 1);
        altered(0, 0xF0F0, 3, -1, 0xF0F0);
        altered(0, 0xF0F0, 3, 0xFF, 0xF0);
        altered(0, 0xF0F0, 4, 0x10F, 0xF1FF);
        altered(0, 0xF0F0, 5, -1, 0x0F0F);
        altered(0, 1, 6, 15, 32768);
        altered(0, 1, 6, 16, 0);
        altered(0, 3, 6, 33, 6);
        altered(0, 3, 6, -31, 6);
        altered(0, 65535, 7, 4, 4095);
        altered(0, 65535, 7, 32, 65535);
        altered(0, 65535, 8, 4, 4095);
        altered(0, 65535, 8, -28, 4095);
        altered(1, 32767, 0, 1, -32768);
        altered(1, -32768, 1, 1, 32767);
        altered(1, -32768, 2, -1, -32768);
        altered(1, -1, 3, 0x7FFF, 32767);
        altered(1, -32768, 4, 1, -32767);
        altered(1, 5, 5, -1, -6);
        altered(1, 1, 6, 15, -32768);
        altered(1, -32768, 7, 15, -1);
        altered(1, -32768, 7, 47, -1);
        altered(1, -32768, 8, 31, 1);
        altered(1, -1, 8, 16, -1);
        altered(1, -1, 8, 17, 32767);
        altered(4, 127, 0, 1, -128);
        altered(4, -128, 1, 1, 127);
        altered(4, 16, 2, 16, 0);
        altered(4, 100, 2, 3, 44);
        altered(4, -1, 3, 0x7F, 127);
        altered(4, 1, 4, 0x80, -127);
        altered(4, 1, 5, 3, 2);
        altered(4, 1, 6, 7, -128);
        altered(4, -128, 7, 3, -16);
        altered(4, -1, 8, 25, 127);
        altered(4, -1, 8, 24, -1);
    }

    private static void alterOfPulls() {
        altered(PULLS, 799999, 0, 1, 800000);
        altered(PULLS, 800000, 0, 1, 800000);
        altered(PULLS, 800000, 0, 800000, 800000);
        altered(PULLS, 800000, 0, -800000, 0);
        altered(PULLS, 800000, 1, 800000, 0);
        altered(PULLS, -800000, 1, 1, -800000);
        altered(PULLS, -800000, 1, 800000, -800000);
        altered(PULLS, 3, 1, -4, 7);
        ReelLoom x = new ReelLoom();
        x.mount(PULLS, 1);
        x.set(PULLS, 0, 11);
        for (int how : new int[] {-1, 2, 3, 4, 5, 6, 7, 8, 9}) {
            DUE.refuses("alter of pulls, how " + how, ARGUMENT, () -> x.alter(PULLS, 0, how, 1));
        }
        for (int v : new int[] {800001, -800001, Integer.MAX_VALUE, Integer.MIN_VALUE}) {
            DUE.refuses("alter of pulls, up by " + v, ARGUMENT, () -> x.alter(PULLS, 0, 0, v));
            DUE.refuses("alter of pulls, down by " + v, ARGUMENT, () -> x.alter(PULLS, 0, 1, v));
        }
        DUE.answers("the pull stays", 11, () -> x.get(PULLS, 0));
    }

    private static void alterOfLifts() {
        for (int v : new int[] {0, 1, 2, -1, 65536, Integer.MIN_VALUE}) {
            int bit = v == 0 ? 0 : 1;
            altered(LIFTS, 0, 3, v, 0);
            altered(LIFTS, 1, 3, v, bit);
            altered(LIFTS, 0, 4, v, bit);
            altered(LIFTS, 1, 4, v, 1);
            altered(LIFTS, 0, 5, v, bit);
            altered(LIFTS, 1, 5, v, 1 - bit);
        }
        ReelLoom x = new ReelLoom();
        x.mount(LIFTS, 1);
        for (int how : new int[] {-1, 0, 1, 2, 6, 7, 8, 9}) {
            DUE.refuses("alter of lifts, how " + how, ARGUMENT, () -> x.alter(LIFTS, 0, how, 1));
        }
        DUE.answers("the lift stays", 0, () -> x.get(LIFTS, 0));
    }

    private static void alterRefuses() {
        for (int k = 0; k < 5; k++) {
            int sort = k;
            int how = sort == LIFTS ? 4 : 0;
            ReelLoom x = new ReelLoom();
            for (int wrong : new int[] {-1, 9, Integer.MIN_VALUE, Integer.MAX_VALUE}) {
                DUE.refuses("how " + wrong + " of none", ARGUMENT, () -> x.alter(sort, -1, wrong, 1));
            }
            DUE.refuses("alter of none", STATE, () -> x.alter(sort, -1, how, 1));
            x.mount(sort, 2);
            for (int place : new int[] {-1, 2, 64, Integer.MIN_VALUE, Integer.MAX_VALUE}) {
                DUE.refuses("alter at " + place, INDEX, () -> x.alter(sort, place, how, 1));
                DUE.refuses("a wrong how at " + place, ARGUMENT, () -> x.alter(sort, place, 9, 1));
            }
            DUE.answers("alter at the last place", 1, () -> x.alter(sort, 1, how, 1));
            DUE.answers("the cell beside it", 0, () -> x.get(sort, 0));
        }
        ReelLoom x = new ReelLoom();
        DUE.refuses("a wrong v of none", ARGUMENT, () -> x.alter(PULLS, 0, 0, 800001));
        x.mount(PULLS, 1);
        DUE.refuses("a wrong v at no place", ARGUMENT, () -> x.alter(PULLS, 1, 0, 800001));
    }

    private static void noSuchSortComesFirst() {
        ReelLoom x = new ReelLoom();
        for (int sort : NO_SORTS) {
            DUE.refuses("mount(" + sort + ")", ARGUMENT, () -> x.mount(sort, 1));
            DUE.refuses("off(" + sort + ")", ARGUMENT, () -> x.off(sort));
            DUE.refuses("swap(" + sort + ")", ARGUMENT, () -> x.swap(sort));
            DUE.refuses("copy(" + sort + ")", ARGUMENT, () -> x.copy(sort));
            DUE.refuses("size(" + sort + ", false)", ARGUMENT, () -> x.size(sort, false));
            DUE.refuses("size(" + sort + ", true)", ARGUMENT, () -> x.size(sort, true));
            DUE.refuses("get(" + sort + ")", ARGUMENT, () -> x.get(sort, -1));
            DUE.refuses("set(" + sort + ")", ARGUMENT, () -> x.set(sort, -1, 1));
            DUE.refuses("alter(" + sort + ")", ARGUMENT, () -> x.alter(sort, -1, 0, 1));
        }
    }

    private static ReelLoom threaded() {
        ReelLoom x = new ReelLoom();
        for (int sort = 0; sort < 4; sort++) {
            x.mount(sort, 2);
            x.set(sort, 0, 1);
            x.copy(sort);
            x.set(sort, 1, 1);
        }
        x.weave(1, 2);
        x.pass(0, 7);
        return x;
    }

    private static void refusedCallsChangeNothing() {
        String before = Glance.of(threaded());
        ReelLoom x = threaded();
        DUE.refuses("mount(0, 65)", ARGUMENT, () -> x.mount(0, 65));
        DUE.refuses("mount(4, -1)", ARGUMENT, () -> x.mount(4, -1));
        DUE.refuses("off(4)", STATE, () -> x.off(4));
        DUE.refuses("copy(4)", STATE, () -> x.copy(4));
        DUE.refuses("get(4, 0)", STATE, () -> x.get(4, 0));
        DUE.refuses("get(0, 2)", INDEX, () -> x.get(0, 2));
        DUE.refuses("set(4, 0, 1)", STATE, () -> x.set(4, 0, 1));
        DUE.refuses("set(0, 2, 1)", INDEX, () -> x.set(0, 2, 1));
        DUE.refuses("alter(4, 0, 0, 1)", STATE, () -> x.alter(4, 0, 0, 1));
        DUE.refuses("alter(1, 2, 0, 1)", INDEX, () -> x.alter(1, 2, 0, 1));
        DUE.refuses("alter(1, 0, 9, 1)", ARGUMENT, () -> x.alter(1, 0, 9, 1));
        DUE.refuses("alter(2, 0, 0, 800001)", ARGUMENT, () -> x.alter(2, 0, 0, 800001));
        DUE.refuses("alter(3, 0, 0, 1)", ARGUMENT, () -> x.alter(3, 0, 0, 1));
        DUE.refuses("swap(5)", ARGUMENT, () -> x.swap(5));
        DUE.compare("after refused calls", before, Glance.of(x));
    }

    private ReelTest() {
    }
}
