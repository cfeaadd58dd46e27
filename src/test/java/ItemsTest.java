/** Promises 3 (row), 4 (mark), 13 (value) and 14 (item). */
public final class ItemsTest {
    public static void main(String[] args) {
        Due.about("promise 3");
        rowsAreNumberedAndStart();
        aKeptAnswerSettlesARow();
        onlyWithRoomToWork();
        Due.about("promises 3 and 4");
        threeHundredAreAll();
        goneOnesCount();
        Due.about("promise 4");
        aMarkIsSettledAtOnce();
        Due.about("promise 13");
        values();
        Due.about("promise 14");
        statesOfARow();
        triesOfARow();
        queued();
        wrongItems();
        Due.end();
    }

    private static void rowsAreNumberedAndStart() {
        OutsideAsks x = new OutsideAsks(2, 1);
        Due.due("row", x.row(Long.MIN_VALUE, Long.MAX_VALUE), 0);
        Due.due("row", x.row(Long.MAX_VALUE, Long.MIN_VALUE), 1);
        Due.due("row", x.row(0, 0), 2);
        Due.due("row", x.row(0, 0), 3);
        Due.dueAll("states", Ask.items(x, 0), "1 1 0 0");
        Due.dueAll("asks", Ask.line(x, 0), "0 1");
        Ask.answer(x, 1);
        Due.dueAll("states", Ask.items(x, 0), "1 2 1 0");
        Due.dueAll("asks", Ask.line(x, 0), "0 2");
    }

    private static void aKeptAnswerSettlesARow() {
        OutsideAsks x = Ask.with(2, 0, 7);
        x.set(3, 4);
        Ask.answer(x, 0);
        x.tick(4);
        Due.due("row at the END", x.row(7, 55), 1);
        Due.due("item(1, 0)", x.item(1, 0), 3);
        Due.due("item(1, 1)", x.item(1, 1), 1);
        Due.due("item(1, 2)", x.item(1, 2), 0);
        Due.due("value(1)", x.value(1), 701);
        Due.due("told(10)", x.told(10), 1);
        Due.due("row of another key", x.row(8, 0), 2);
        Due.due("item(2, 0)", x.item(2, 0), 1);
        x.tick(1);
        Due.due("row behind the END", x.row(7, 56), 3);
        Due.due("item(3, 0)", x.item(3, 0), 1);
        Due.due("kept(7)", x.kept(7), 4);
    }

    private static void onlyWithRoomToWork() {
        OutsideAsks x = Ask.with(1, 0, 7);
        x.set(3, 4);
        Ask.answer(x, 0);
        Ask.rows(x, 8, 7, 7);
        Due.dueAll("states", Ask.items(x, 0), "3 1 0 0");
        Ask.answer(x, 1);
        Due.dueAll("states", Ask.items(x, 0), "3 3 3 3");
        Due.dueAll("results", Ask.items(x, 1), "0 0 1 1");
    }

    private static void threeHundredAreAll() {
        OutsideAsks x = new OutsideAsks(16, 1);
        for (int i = 0; i < 300; i++) {
            Due.due("the next item", i % 3 == 0 ? x.mark() : x.row(i, i), i);
        }
        String before = Ask.whole(x, 1, 299);
        Due.due("row beyond 300", x.row(1, 1), -4);
        Due.due("mark beyond 300", x.mark(), -4);
        Due.dueAll("after FULL", Ask.whole(x, 1, 299), before);
        Due.due("told(1)", x.told(1), 300);
    }

    private static void goneOnesCount() {
        OutsideAsks x = new OutsideAsks(16, 0);
        for (int i = 0; i < 299; i++) {
            x.mark();
        }
        x.restart();
        Due.due("row", x.row(1, 1), 299);
        Due.due("row", x.row(1, 1), -4);
        x.restart();
        Due.due("mark", x.mark(), -4);
        Due.due("told(1)", x.told(1), 300);
    }

    private static void aMarkIsSettledAtOnce() {
        OutsideAsks x = Ask.with(1, 0, 1);
        Due.due("mark", x.mark(), 1);
        Due.due("mark", x.mark(), 2);
        Due.dueAll("states", Ask.items(x, 0), "1 2 2");
        Due.dueAll("results", Ask.items(x, 1), "-1 5 5");
        Due.dueAll("tries", Ask.items(x, 2), "1 0 0");
        Due.dueAll("marks", Ask.items(x, 3), "0 1 1");
        Due.due("told(4)", x.told(4), 1);
        Due.due("told(5)", x.told(5), 2);
        Ask.answer(x, 0);
        Due.dueAll("states", Ask.items(x, 0), "3 3 3");
        Due.due("mark", x.mark(), 3);
        Due.due("item(3, 0) with all ahead out", x.item(3, 0), 3);
    }

    private static void values() {
        OutsideAsks x = new OutsideAsks(1, 1);
        x.row(4, Long.MAX_VALUE);
        x.row(4, -3);
        x.mark();
        Due.dueAll("values before", Ask.values(x), "0 0 0");
        Ask.answer(x, 0);
        Due.due("value(0) going round", x.value(0), Long.MIN_VALUE);
        Ask.answer(x, 1);
        Due.due("value(1)", x.value(1), -1);
        Due.due("value(2)", x.value(2), 0);
        Ask.rows(x, 5);
        Ask.cause(x, 3, 3);
        Due.due("value(3) of a cause", x.value(3), 3);
        x.restart();
        Due.dueAll("values of gone ones", Ask.values(x), "0 0 0 0");
        int[] wrong = {-1, 4, 300, Integer.MIN_VALUE, Integer.MAX_VALUE};
        for (int item : wrong) {
            Due.due("value(" + item + ")", x.value(item), 0);
        }
        OutsideAsks y = Ask.with(2, 1, 1, 2);
        Ask.answer(y, 1);
        Due.due("value of a settled one that is not out", y.value(1), 201);
    }

    private static void statesOfARow() {
        OutsideAsks x = Ask.with(1, 1, 1, 2, 3);
        Due.dueAll("states", Ask.items(x, 0), "1 0 0");
        Due.dueAll("results", Ask.items(x, 1), "-1 -1 -1");
        Ask.answer(x, 0);
        Due.dueAll("states", Ask.items(x, 0), "3 1 0");
        x.mark();
        Ask.cause(x, 1, 1);
        Due.dueAll("results", Ask.items(x, 1), "0 2 -1 5");
        x.tick(100);
        Due.dueAll("results", Ask.items(x, 1), "0 2 3 5");
        x.restart();
        Due.dueAll("states of gone ones", Ask.items(x, 0), "4 4 4 4");
        Due.dueAll("results of gone ones", Ask.items(x, 1), "-1 -1 -1 -1");
        Due.dueAll("tries of gone ones", Ask.items(x, 2), "0 0 0 0");
        Due.dueAll("marks of gone ones", Ask.items(x, 3), "0 0 0 1");
        Due.dueAll("queue of gone ones", Ask.items(x, 4), "0 0 0 0");
    }

    private static void triesOfARow() {
        OutsideAsks x = new OutsideAsks(1, 1);
        x.set(1, 4);
        x.set(0, 2);
        Ask.rows(x, 1, 2);
        Due.dueAll("tries", Ask.items(x, 2), "1 0");
        x.tick(5);
        Due.dueAll("tries", Ask.items(x, 2), "3 0");
        Ask.answer(x, 0);
        Due.dueAll("tries of one that is out", Ask.items(x, 2), "3 1");
    }

    private static void queued() {
        OutsideAsks x = new OutsideAsks(3, 1);
        x.set(2, 1);
        Ask.rows(x, 1, 2, 3, 4);
        x.mark();
        Due.dueAll("queued", Ask.items(x, 4), "0 1 1 0 0");
        x.tick(1);
        Due.dueAll("queued", Ask.items(x, 4), "0 0 1 0 0");
    }

    private static void wrongItems() {
        OutsideAsks x = Ask.with(2, 1, 1, 2);
        x.mark();
        int[] wrong = {-1, 3, 299, 300, Integer.MIN_VALUE, Integer.MAX_VALUE};
        for (int w : wrong) {
            for (int what = 0; what <= 4; what++) {
                Due.due("item(" + w + ", " + what + ")", x.item(w, what), -1);
            }
        }
        int[] wrongWhats = {-1, 5, Integer.MIN_VALUE, Integer.MAX_VALUE};
        for (int what : wrongWhats) {
            Due.due("item(0, " + what + ")", x.item(0, what), -1);
            Due.due("item(2, " + what + ")", x.item(2, what), -1);
        }
    }
}
