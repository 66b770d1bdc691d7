/** Runs of 512 calls on a loom and on its model: each answer has to be the same. */
public final class ModelTest {
    private static final int RUNS = 3000;
    private static final int CALLS = 512;
    private static final Due DUE = new Due();

    private final Pair pair;
    /** Runs on small reels and cloths hit the same cells again; those on large ones, the far edges. */
    private final int reach;
    private long seed;

    private ModelTest(int run) {
        this.pair = new Pair(DUE, "run " + run);
        this.seed = run * 7919L + 17;
        this.reach = new int[] {2, 4, 8, 40}[run % 4];
    }

    public static void main(String[] args) {
        for (int run = 0; run < RUNS; run++) {
            ModelTest test = new ModelTest(run);
            for (int call = 0; call < CALLS; call++) {
                test.call(call);
            }
        }
        DUE.end("ModelTest");
    }

    /** A row of numbers that is the same in every run of the test. */
    private int below(int bound) {
        seed = seed * 6364136223846793005L + 1442695040888963407L;
        return (int) ((seed >>> 33) % bound);
    }

    private int rarely(int usual, int... others) {
        return below(25) == 0 ? others[below(others.length)] : usual;
    }

    private int sort() {
        return rarely(below(5), -1, 5, Looms.LOWEST, Looms.HIGHEST);
    }

    private int place() {
        return rarely(below(reach + 1), -1, 63, 64, 40, Looms.LOWEST, Looms.HIGHEST);
    }

    private int how() {
        return rarely(below(9), -1, 9, Looms.LOWEST, Looms.HIGHEST);
    }

    private int number() {
        switch (below(4)) {
            case 0:
                return below(9) - 4;
            case 1:
                int[] ends = {127, 128, -128, 32767, 32768, -32768, 65535, 65536, 799999, 800000, 800001, -799999,
                    -800000, -800001, Looms.HIGHEST, Looms.LOWEST, Looms.LOWEST + 1};
                return ends[below(ends.length)];
            case 2:
                return below(1600003) - 800001;
            default:
                return below(1 << 30) * 4 + below(4);
        }
    }

    private int cells() {
        return rarely(below(4) == 0 ? below(reach + 2) : reach, -1, 0, 64, 65, Looms.LOWEST, Looms.HIGHEST);
    }

    private int lines() {
        return rarely(1 + below(reach), -1, 0, 40, 41, Looms.LOWEST, Looms.HIGHEST);
    }

    private void call(int call) {
        int kind = below(100);
        if (call < 7) {
            kind = call < 6 ? 0 : 60;
        }
        if (kind < 60) {
            callReels(kind);
        } else {
            callCloth(kind);
        }
    }

    private void callReels(int kind) {
        int sort = sort();
        int i = place();
        int v = number();
        if (kind < 6) {
            pair.mount(sort, cells());
        } else if (kind < 8) {
            pair.off(sort);
        } else if (kind < 12) {
            pair.swap(sort);
        } else if (kind < 16) {
            pair.copy(sort);
        } else if (kind < 20) {
            pair.size(sort, below(2) == 0);
        } else if (kind < 30) {
            pair.get(sort, i);
        } else if (kind < 42) {
            pair.set(sort, i, v);
        } else {
            int how = sort == 2 && below(2) == 0 ? below(2) : sort == 3 && below(2) == 0 ? 3 + below(3) : how();
            pair.alter(sort, i, how, v);
        }
    }

    private void callCloth(int kind) {
        int row = place();
        int column = place();
        int what = below(7) - 1;
        if (kind < 62) {
            pair.weave(lines(), lines());
        } else if (kind < 72) {
            int colour = rarely(below(65536), -1, 65535, 65536, Looms.LOWEST, Looms.HIGHEST);
            pair.pass(row, colour);
        } else if (kind < 78) {
            pair.stop(what);
        } else if (kind < 79) {
            pair.cut(row);
        } else if (kind < 85) {
            pair.cell(row, column);
        } else if (kind < 91) {
            pair.dye(row, column, how(), number());
        } else if (kind < 94) {
            pair.seam(row, column);
        } else {
            pair.sum(what);
        }
    }
}
