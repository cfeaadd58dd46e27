/** Promise 14: item. */
public final class Promise14ItemTest {
    private static final String HERE = "Promise 14";

    public static void main(String[] args) {
        all();
        Due.end();
    }

    static void all() {
        String state = "Of an ITEM: what = 0: 0 WAITING, 1 WORKING, 2 SETTLED, 3 OUT, 4 GONE;";
        Sentences.test(HERE, state, Promise14ItemTest::eachState);
        String result = "1 its RESULT (NONE before, and of GONE ones);";
        Sentences.test(HERE, result, Promise14ItemTest::noResultBefore);
        Sentences.test(HERE, result, Promise14ItemTest::eachResult);
        Sentences.test(HERE, result, Promise14ItemTest::noResultOfGoneOnes);
        Sentences.test(HERE, result, Promise14ItemTest::noResultWhenItIsTakenBack);
        String tries =
            "2 its TRIES (0 before any, and of GONE ones; else those of the latest time that it was WORKING);";
        Sentences.test(HERE, tries, Promise14ItemTest::noTriesBeforeAny);
        Sentences.test(HERE, tries, Promise14ItemTest::noTriesOfGoneOnes);
        Sentences.test(HERE, tries, Promise14ItemTest::triesOfThoseThatWorked);
        Sentences.test(HERE, tries, Promise14ItemTest::triesOfTheLatestTime);
        Sentences.test(HERE, "3 whether it is a MARK (1, 0);", Promise14ItemTest::whetherItIsAMark);
        Sentences.test(HERE, "4 whether it is in THE QUEUE (1, 0).", Promise14ItemTest::whetherItIsInTheQueue);
        Sentences.test(HERE, "NONE.", Promise14ItemTest::thereIsNoSuchItem);
        Sentences.test(HERE, "NONE.", Promise14ItemTest::the300thButNotThe301st);
        Sentences.test(HERE, "NONE.", Promise14ItemTest::thereIsNoSuchWhat);
    }

    private static void eachState() {
        Run r = Run.with(2, 1, 1, 2, 3);
        r.save();
        r.rows(4);
        r.restart();
        r.answer(1);
        Due.dueAll("states", r.states(), "1 2 1 4");
        r.rows(5);
        Due.due("item(4, 0)", r.item(4, 0), 0);
        r.answer(0);
        Due.dueAll("states", r.states(), "3 3 1 4 1");
    }

    private static void noResultBefore() {
        Run r = Run.with(1, 1, 1, 2);
        Due.dueAll("results", r.results(), "-1 -1");
        r.serve(0);
        Due.due("item(0, 1) while its answer is under way", r.item(0, 1), -1);
        r.tick(10);
        Due.due("item(0, 1) when it is tried again", r.item(0, 1), -1);
    }

    private static void eachResult() {
        Run r = new Run(5, 1);
        r.set(3, 50);
        r.set(5, 2);
        r.rows(1, 2, 3, 4);
        r.answer(3);
        r.fail(2, 2);
        r.fail(1, 1);
        r.rows(4);
        r.mark();
        Due.dueAll("results when settled", r.results(), "-1 2 4 0 1 5");
        r.tick(20);
        Due.dueAll("results when out", r.results(), "3 2 4 0 1 5");
    }

    private static void noResultOfGoneOnes() {
        Run r = Run.with(1, 0, 1, 2);
        r.answer(0);
        r.mark();
        r.restart();
        Due.dueAll("results", r.results(), "-1 -1 -1");
    }

    private static void noResultWhenItIsTakenBack() {
        Run r = Run.with(2, 0, 1, 2);
        r.save();
        r.answer(0);
        r.fail(1, 1);
        r.restart();
        Due.dueAll("results", r.results(), "-1 -1");
    }

    private static void noTriesBeforeAny() {
        Run r = new Run(1, 0);
        r.set(3, 50);
        r.rows(1, 2);
        r.mark();
        Due.dueAll("tries of one that waits and of a mark", r.tries(), "1 0 0");
        r.answer(0);
        r.answer(1);
        r.rows(1);
        Due.due("item(3, 1)", r.item(3, 1), 1);
        Due.due("item(3, 2) by an answer that was kept", r.item(3, 2), 0);
        Due.due("item(2, 2) of a mark that is out", r.item(2, 2), 0);
    }

    private static void noTriesOfGoneOnes() {
        Run r = Run.with(1, 0, 1, 2);
        r.tick(10);
        Due.dueAll("tries", r.tries(), "2 0");
        r.restart();
        Due.dueAll("tries", r.tries(), "0 0");
    }

    private static void triesOfThoseThatWorked() {
        Run r = new Run(1, 1);
        r.set(0, 2);
        r.set(1, 4);
        r.rows(1, 2, 3);
        r.tick(4);
        Due.dueAll("tries of one that works", r.tries(), "3 0 0");
        r.answer(0);
        Due.dueAll("tries of one that is answered", r.tries(), "3 1 0");
        r.fail(1, 1);
        Due.dueAll("tries of one that failed", r.tries(), "3 1 1");
        r.tick(100);
        Due.dueAll("tries of one in vain", r.tries(), "3 1 4");
    }

    /** Only a restart lets a row work once more: row 1 waited when all was saved. */
    private static void triesOfTheLatestTime() {
        Run r = Run.with(1, 1, 1, 2);
        r.save();
        r.answer(0);
        r.tick(20);
        Due.dueAll("tries", r.tries(), "1 2");
        r.restart();
        Due.dueAll("tries: as saved, and one more of the working one", r.tries(), "2 0");
        r.answer(0);
        r.answer(1);
        Due.dueAll("tries of the latest time", r.tries(), "2 1");
    }

    private static void whetherItIsAMark() {
        Run r = Run.with(1, 1, 1, 2);
        r.mark();
        r.rows(3);
        r.mark();
        Due.dueAll("marks", r.marks(), "0 0 1 0 1");
        r.restart();
        Due.dueAll("marks that are gone", r.marks(), "0 0 1 0 1");
    }

    private static void whetherItIsInTheQueue() {
        Run r = new Run(3, 1);
        r.set(2, 1);
        r.rows(1, 2, 3, 4);
        r.mark();
        Due.dueAll("queued", r.queued(), "0 1 1 0 0");
        r.tick(1);
        Due.dueAll("queued", r.queued(), "0 0 1 0 0");
        r.tick(1);
        Due.dueAll("queued", r.queued(), "0 0 0 0 0");
        r.tick(8);
        r.set(2, 1);
        r.restart();
        Due.dueAll("gone ones are not in the queue", r.queued(), "0 0 0 0 0");
    }

    private static void thereIsNoSuchItem() {
        int items = Refused.busy().told(1);
        int[] wrong = {-1, Integer.MIN_VALUE, items, items + 1, 299, 300, Integer.MAX_VALUE};
        for (int item : wrong) {
            for (int what = 0; what <= 4; what++) {
                int asked = what;
                Refused.none("item(" + item + ", " + what + ")", Refused::busy, r -> r.item(item, asked));
            }
        }
        Refused.none("item(0, 0)", Refused::fresh, r -> r.item(0, 0));
    }

    private static void the300thButNotThe301st() {
        Run r = Refused.fullOfItems();
        int[] due = {0, -1, 0, 0, 0};
        for (int what = 0; what <= 4; what++) {
            Due.due("item(299, " + what + ")", r.item(299, what), due[what]);
            Due.due("item(300, " + what + ")", r.item(300, what), -1);
        }
    }

    private static void thereIsNoSuchWhat() {
        int[] wrong = {-1, 5, 6, Integer.MIN_VALUE, Integer.MAX_VALUE};
        for (int what : wrong) {
            for (int item = 0; item <= 8; item += 4) {
                int asked = item;
                Refused.none("item(" + item + ", " + what + ")", Refused::busy, r -> r.item(asked, what));
            }
        }
    }
}
