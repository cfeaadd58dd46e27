/** Promise 17: save. What SAVING keeps stands in the terms. */
public final class Promise17SaveTest {
    private static final String HERE = "Promise 17";

    public static void main(String[] args) {
        all();
        Due.end();
    }

    static void all() {
        String save = "SAVING: how many ITEMS are not OUT (nor GONE).";
        Sentences.test(HERE, save, Promise17SaveTest::noItems);
        Sentences.test(HERE, save, Promise17SaveTest::waitingWorkingAndSettledOnes);
        Sentences.test(HERE, save, Promise17SaveTest::notThoseThatAreOut);
        Sentences.test(HERE, save, Promise17SaveTest::notThoseThatAreGone);
        Sentences.test(HERE, save, Promise17SaveTest::threeHundred);
        Sentences.test(HERE, save, Promise17SaveTest::nothingElseChanges);
    }

    private static void noItems() {
        Run r = new Run(2, 1);
        Due.due("save()", r.save(), 0);
        Due.due("save() again", r.save(), 0);
    }

    private static void waitingWorkingAndSettledOnes() {
        Run r = Run.with(2, 1, 1, 2, 3);
        r.mark();
        r.answer(1);
        Due.dueAll("states", r.states(), "1 2 1 2");
        Due.due("save()", r.save(), 4);
        r.rows(4);
        Due.due("save() with one that waits", r.save(), 5);
    }

    private static void notThoseThatAreOut() {
        Run r = Run.with(2, 1, 1, 2);
        r.answer(0);
        Due.due("save()", r.save(), 1);
        r.answer(1);
        Due.due("save()", r.save(), 0);
        r.mark();
        Due.due("save() with a mark that is out", r.save(), 0);
    }

    private static void notThoseThatAreGone() {
        Run r = Run.with(2, 1, 1);
        r.save();
        r.rows(2, 3);
        r.restart();
        Due.due("save()", r.save(), 1);
        r.rows(4);
        Due.due("save()", r.save(), 2);
    }

    private static void threeHundred() {
        Run r = new Run(16, 1);
        r.manyRows(300);
        Due.due("save()", r.save(), 300);
        r.answer(0);
        Due.due("save()", r.save(), 299);
        Due.due("restart()", r.restart(), 16);
        Due.due("told(2)", r.told(2), 1);
        Due.due("told(3)", r.told(3), 283);
    }

    private static void nothingElseChanges() {
        Run r = Refused.busy();
        String before = r.whole(1, 2, 3, 4, 5, 6, 7, 8);
        r.save();
        Due.dueAll("all behind save()", r.whole(1, 2, 3, 4, 5, 6, 7, 8), before);
    }
}
