/** Short ways to bring an object into a state, and to read it as one text. */
final class Ask {
    private Ask() {
    }

    static OutsideAsks with(int most, int order, int... rowKeys) {
        OutsideAsks x = new OutsideAsks(most, order);
        rows(x, rowKeys);
        return x;
    }

    static void rows(OutsideAsks x, int... keys) {
        for (int key : keys) {
            x.row(key, 100L * key);
        }
    }

    /** The first ask under way of a row is served and its answer arrives. */
    static void answer(OutsideAsks x, int row) {
        x.serve(place(x, 0, row));
        x.arrive(x.told(8) - 1);
    }

    /** The first ask under way of a row is refused and the cause arrives: what arrive answered. */
    static int cause(OutsideAsks x, int row, int cause) {
        x.refuse(place(x, 0, row), cause);
        return x.arrive(x.told(8) - 1);
    }

    static int place(OutsideAsks x, int line, int row) {
        for (int k = 0; x.under(line, k) != OutsideAsks.NONE; k++) {
            if (x.under(line, k) == row) {
                return k;
            }
        }
        return OutsideAsks.NONE;
    }

    static void loseAll(OutsideAsks x, int line) {
        while (x.under(line, 0) != OutsideAsks.NONE) {
            x.lose(line, 0);
        }
    }

    /** The rows under way on a line. */
    static String line(OutsideAsks x, int line) {
        StringBuilder all = new StringBuilder();
        for (int k = 0; x.under(line, k) != OutsideAsks.NONE; k++) {
            all.append(k == 0 ? "" : " ").append(x.under(line, k));
        }
        return all.toString();
    }

    /** The items that went out. */
    static String outs(OutsideAsks x, int what) {
        StringBuilder all = new StringBuilder();
        for (int k = 0; k < x.told(2); k++) {
            all.append(k == 0 ? "" : " ").append(x.out(k, what));
        }
        return all.toString();
    }

    /** One thing of each item. */
    static String items(OutsideAsks x, int what) {
        StringBuilder all = new StringBuilder();
        for (int i = 0; i < x.told(1); i++) {
            all.append(i == 0 ? "" : " ").append(x.item(i, what));
        }
        return all.toString();
    }

    static String values(OutsideAsks x) {
        StringBuilder all = new StringBuilder();
        for (int i = 0; i < x.told(1); i++) {
            all.append(i == 0 ? "" : " ").append(x.value(i));
        }
        return all.toString();
    }

    /** All that told() tells. */
    static String told(OutsideAsks x) {
        StringBuilder all = new StringBuilder();
        for (int what = 0; what <= 12; what++) {
            all.append(what == 0 ? "" : " ").append(x.told(what));
        }
        return all.toString();
    }

    /** All that can be read of an object, so that a refused call can be seen to change nothing. */
    static String whole(OutsideAsks x, long... keys) {
        StringBuilder all = new StringBuilder(told(x));
        for (int what = 0; what <= 4; what++) {
            all.append(" | ").append(items(x, what));
        }
        for (int what = 0; what <= 2; what++) {
            all.append(" | ").append(outs(x, what));
        }
        all.append(" | ").append(values(x)).append(" | ").append(line(x, 0)).append(" | ").append(line(x, 1));
        for (long key : keys) {
            all.append(" | ").append(x.count(key)).append(' ').append(x.kept(key));
        }
        return all.toString();
    }
}
