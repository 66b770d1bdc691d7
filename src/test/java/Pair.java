/** A loom and its model: each call is made on both, and the loom has to answer what the model does. */
final class Pair {
    private final Due due;
    private final String when;
    private final ReelLoom loom = new ReelLoom();
    private final Model model = new Model();
    private int calls = 0;

    Pair(Due due, String when) {
        this.due = due;
        this.when = when;
    }

    private void same(String call, String answer, Due.Call made) {
        calls++;
        due.compare(when + ", call " + calls + ", " + call, answer, Due.outcome(made));
    }

    void mount(int sort, int n) {
        same("mount(" + sort + ", " + n + ")", model.mount(sort, n), () -> loom.mount(sort, n));
    }

    void off(int sort) {
        same("off(" + sort + ")", model.off(sort), () -> loom.off(sort));
    }

    void swap(int sort) {
        same("swap(" + sort + ")", model.swap(sort), () -> loom.swap(sort));
    }

    void copy(int sort) {
        same("copy(" + sort + ")", model.copy(sort), () -> loom.copy(sort));
    }

    void size(int sort, boolean spare) {
        same("size(" + sort + ", " + spare + ")", model.size(sort, spare), () -> loom.size(sort, spare));
    }

    void get(int sort, int i) {
        same("get(" + sort + ", " + i + ")", model.get(sort, i), () -> loom.get(sort, i));
    }

    void set(int sort, int i, int v) {
        same("set(" + sort + ", " + i + ", " + v + ")", model.set(sort, i, v), () -> loom.set(sort, i, v));
    }

    void alter(int sort, int i, int how, int v) {
        same("alter(" + sort + ", " + i + ", " + how + ", " + v + ")", model.alter(sort, i, how, v),
                () -> loom.alter(sort, i, how, v));
    }

    void weave(int rows, int columns) {
        same("weave(" + rows + ", " + columns + ")", model.weave(rows, columns), () -> loom.weave(rows, columns));
    }

    void pass(int row, int colour) {
        same("pass(" + row + ", " + colour + ")", model.pass(row, colour), () -> loom.pass(row, colour));
    }

    void stop(int what) {
        same("stop(" + what + ")", model.stop(what), () -> loom.stop(what));
    }

    void cut(int row) {
        same("cut(" + row + ")", model.cut(row), () -> loom.cut(row));
    }

    void cell(int row, int column) {
        same("cell(" + row + ", " + column + ")", model.cell(row, column), () -> loom.cell(row, column));
    }

    void dye(int row, int column, int how, int v) {
        same("dye(" + row + ", " + column + ", " + how + ", " + v + ")", model.dye(row, column, how, v),
                () -> loom.dye(row, column, how, v));
    }

    void seam(int one, int other) {
        same("seam(" + one + ", " + other + ")", model.seam(one, other), () -> loom.seam(one, other));
    }

    void sum(int what) {
        same("sum(" + what + ")", model.sum(what), () -> loom.sum(what));
    }

    /** Asks all that small looms have: the first places of each reel and spare, the first cells, the stop. */
    void look(int places) {
        for (int sort = 0; sort < 5; sort++) {
            for (int side = 0; side < 2; side++) {
                size(sort, false);
                for (int i = 0; i < places; i++) {
                    get(sort, i);
                }
                swap(sort);
            }
        }
        for (int row = 0; row < places; row++) {
            for (int column = 0; column < places; column++) {
                cell(row, column);
            }
        }
        for (int what = 0; what < 3; what++) {
            stop(what);
        }
        for (int what = 0; what < 5; what++) {
            sum(what);
        }
    }
}
