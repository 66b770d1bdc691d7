/** Runs of 512 calls on a loom and on its model: each answer has to be the same. */
public final class ModelTest {
    private static final int RUNS = 3000;
    private static final int CALLS = 512;
    private static final Due DUE = new Due();

    private final ReelLoom loom = new ReelLoom();
    private final Model model = new Model();
    private final int run;
    /** Runs on small reels and cloths hit the same cells again; those on large ones, the far edges. */
    private final int reach;
    private long seed;

    private ModelTest(int run) {
        this.run = run;
        this.seed = run * 7919L + 17;
        this.reach = new int[] {2, 4, 8, 40}[run % 4];
    }

    public static void main(String[] args) {
        for (int run = 0; run < RUNS; run++) {
            ModelTest test = new ModelTest(run);
            for (int call = 0; call < CALLS; call++) {
                test.call(call);
            }
        }
        DUE.end("ModelTest");
    }

    /** A row of numbers that is the same in every run of the test. */
    private int below(int bound) {
        seed = seed * 6364136223846793005L + 1442695040888963407L;
        return (int) ((seed >>> 33) % bound);
    }

    private int rarely(int usual, int... others) {
        return below(25) == 0 ? others[below(others.length)] : usual;
    }

    private int sort() {
        return rarely(below(5), -1, 5, Integer.MIN_VALUE, Integer.MAX_VALUE);
    }

    private int place() {
        return rarely(below(reach + 1), -1, 63, 64, 40, Integer.MIN_VALUE, Integer.MAX_VALUE);
    }

    private int how() {
        return rarely(below(9), -1, 9, Integer.MIN_VALUE, Integer.MAX_VALUE);
    }

    private int number() {
        switch (below(4)) {
            case 0:
                return below(9) - 4;
            case 1:
                int[] ends = {127, 128, -128, 32767, 32768, -32768, 65535, 65536, 799999, 800000, 800001, -799999,
                    -800000, -800001, Integer.MAX_VALUE, Integer.MIN_VALUE, Integer.MIN_VALUE + 1};
                return ends[below(ends.length)];
            case 2:
                return below(1600003) - 800001;
            default:
                return below(1 << 30) * 4 + below(4);
        }
    }

    private int cells() {
        return rarely(below(4) == 0 ? below(reach + 2) : reach, -1, 0, 64, 65, Integer.MIN_VALUE, Integer.MAX_VALUE);
    }

    private int lines() {
        return rarely(1 + below(reach), -1, 0, 40, 41, Integer.MIN_VALUE, Integer.MAX_VALUE);
    }

    private void call(int call) {
        int kind = below(100);
        if (call < 7) {
            kind = call < 6 ? 0 : 60;
        }
        if (kind < 60) {
            callReels(kind, call);
        } else {
            callCloth(kind, call);
        }
    }

    private void due(String name, int call, String due, Due.Call made) {
        DUE.compare("run " + run + ", call " + call + ", " + name, due, Due.outcome(made));
    }

    private void callReels(int kind, int call) {
        int sort = sort();
        int i = place();
        int v = number();
        if (kind < 6) {
            int n = cells();
            due("mount(" + sort + ", " + n + ")", call, model.mount(sort, n), () -> loom.mount(sort, n));
        } else if (kind < 8) {
            due("off(" + sort + ")", call, model.off(sort), () -> loom.off(sort));
        } else if (kind < 12) {
            due("swap(" + sort + ")", call, model.swap(sort), () -> loom.swap(sort));
        } else if (kind < 16) {
            due("copy(" + sort + ")", call, model.copy(sort), () -> loom.copy(sort));
        } else if (kind < 20) {
            boolean spare = below(2) == 0;
            due("size(" + sort + ", " + spare + ")", call, model.size(sort, spare), () -> loom.size(sort, spare));
        } else if (kind < 30) {
            due("get(" + sort + ", " + i + ")", call, model.get(sort, i), () -> loom.get(sort, i));
        } else if (kind < 42) {
            due("set(" + sort + ", " + i + ", " + v + ")", call, model.set(sort, i, v), () -> loom.set(sort, i, v));
        } else {
            int how = sort == 2 && below(2) == 0 ? below(2) : sort == 3 && below(2) == 0 ? 3 + below(3) : how();
            due("alter(" + sort + ", " + i + ", " + how + ", " + v + ")", call,
                    model.alter(sort, i, how, v), () -> loom.alter(sort, i, how, v));
        }
    }

    private void callCloth(int kind, int call) {
        int row = place();
        int column = place();
        int what = below(7) - 1;
        if (kind < 62) {
            int rows = lines();
            int columns = lines();
            due("weave(" + rows + ", " + columns + ")", call,
                    model.weave(rows, columns), () -> loom.weave(rows, columns));
        } else if (kind < 72) {
            int colour = rarely(below(65536), -1, 65535, 65536, Integer.MIN_VALUE, Integer.MAX_VALUE);
            due("pass(" + row + ", " + colour + ")", call, model.pass(row, colour), () -> loom.pass(row, colour));
        } else if (kind < 78) {
            due("stop(" + what + ")", call, model.stop(what), () -> loom.stop(what));
        } else if (kind < 79) {
            due("cut(" + row + ")", call, model.cut(row), () -> loom.cut(row));
        } else if (kind < 85) {
            due("cell(" + row + ", " + column + ")", call, model.cell(row, column), () -> loom.cell(row, column));
        } else if (kind < 91) {
            int how = how();
            int v = number();
            due("dye(" + row + ", " + column + ", " + how + ", " + v + ")", call,
                    model.dye(row, column, how, v), () -> loom.dye(row, column, how, v));
        } else if (kind < 94) {
            due("seam(" + row + ", " + column + ")", call, model.seam(row, column), () -> loom.seam(row, column));
        } else {
            due("sum(" + what + ")", call, model.sum(what), () -> loom.sum(what));
        }
    }
}
