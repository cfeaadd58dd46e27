/** Promise 3: row. */
public final class Promise03RowTest {
    private static final String HERE = "Promise 3";

    public static void main(String[] args) {
        all();
        Due.end();
    }

    static void all() {
        Sentences.test(HERE, "A ROW comes: its number; FULL.", Promise03RowTest::itsNumber);
        Sentences.test(HERE, "A ROW comes: its number; FULL.", Promise03RowTest::anyKeyAndValue);
        Sentences.test(HERE, "A ROW comes: its number; FULL.", Promise03RowTest::the300thHasItsNumber);
        Sentences.test(HERE, "A ROW comes: its number; FULL.", Promise03RowTest::the301stIsFullAndChangesNothing);
    }

    private static void itsNumber() {
        Run r = new Run(2, 1);
        Due.due("row", r.row(5, 50), 0);
        Due.due("row of the same key", r.row(5, 50), 1);
        Due.due("mark", r.mark(), 2);
        Due.due("row behind a mark", r.row(6, 60), 3);
        r.restart();
        Due.due("row behind a restart", r.row(7, 70), 4);
    }

    private static void anyKeyAndValue() {
        long[] all = {Long.MIN_VALUE, -1, 0, 1, Long.MAX_VALUE};
        Run r = new Run(5, 1);
        for (int i = 0; i < all.length; i++) {
            Due.due("row(" + all[i] + ", " + all[i] + ")", r.row(all[i], all[i]), i);
        }
        for (int i = 0; i < all.length; i++) {
            r.answer(i);
            Due.due("value(" + i + ")", r.value(i), all[i] + 1);
            Due.due("count(" + all[i] + ")", r.count(all[i]), 1);
        }
    }

    private static void the300thHasItsNumber() {
        Run r = new Run(16, 1);
        for (int i = 0; i < 299; i++) {
            Due.due("row", r.row(i, i), i);
        }
        Due.due("the 300th row", r.row(7, 7), 299);
        Due.due("told(1)", r.told(1), 300);
        Due.due("item(299, 0)", r.item(299, 0), 0);
    }

    private static void the301stIsFullAndChangesNothing() {
        Refused.full("row(1, 1)", Refused::fullOfItems, r -> r.row(1, 1));
        Refused.full("row(77, 1)", Refused::fullOfItems, r -> r.row(77, 1));
        Run r = Refused.fullOfItems();
        for (int i = 0; i < 20; i++) {
            Due.due("row again", r.row(1, 1), -4);
        }
        Due.due("told(1)", r.told(1), 300);
        Due.due("item(300, 0)", r.item(300, 0), -1);
    }
}
