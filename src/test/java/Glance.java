/** All that can be asked of a loom, as one text; the loom has the same state afterwards. */
final class Glance {
    static String of(ReelLoom loom) {
        StringBuilder text = new StringBuilder();
        for (int sort = 0; sort < 5; sort++) {
            working(loom, sort, text.append(" works"));
            loom.swap(sort);
            working(loom, sort, text.append(" spare"));
            loom.swap(sort);
        }
        cloth(loom, text.append(" cloth"));
        text.append(" stop");
        for (int what = 0; what < 3; what++) {
            text.append(' ').append(loom.stop(what));
        }
        return text.toString();
    }

    private static void working(ReelLoom loom, int sort, StringBuilder text) {
        int length = loom.size(sort, false);
        text.append(' ').append(length).append(':');
        for (int i = 0; i < length; i++) {
            text.append(' ').append(loom.get(sort, i));
        }
    }

    private static void cloth(ReelLoom loom, StringBuilder text) {
        int rows = loom.sum(2);
        int columns = loom.sum(3);
        text.append(' ').append(rows).append('x').append(columns).append(" cut ").append(loom.sum(4));
        for (int row = 0; row < rows; row++) {
            text.append(" /");
            for (int column = 0; column < columns; column++) {
                int r = row;
                int c = column;
                text.append(' ').append(Due.outcome(() -> loom.cell(r, c)));
            }
        }
    }

    private Glance() {
    }
}
