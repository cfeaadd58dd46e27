/** Promise 16: kept. What is KEPT, and for how long, stands in the terms. */
public final class Promise16KeptTest {
    private static final String HERE = "Promise 16";

    public static void main(String[] args) {
        all();
        Due.end();
    }

    static void all() {
        String kept = "The END of the answer that is KEPT for a KEY (also when it is below NOW); NONE.";
        Sentences.test(HERE, kept, Promise16KeptTest::itsEnd);
        Sentences.test(HERE, kept, Promise16KeptTest::alsoWhenItIsNow);
        Sentences.test(HERE, kept, Promise16KeptTest::alsoWhenItIsBelowNow);
        Sentences.test(HERE, kept, Promise16KeptTest::ofAnyKey);
        Sentences.test(HERE, kept, Promise16KeptTest::noneIsKept);
        Sentences.test(HERE, kept, Promise16KeptTest::noneIsKeptForThisKey);
        Sentences.test(HERE, kept, Promise16KeptTest::noneIsKeptBehindARestart);
    }

    private static Run withKept(int key, int keep) {
        Run r = new Run(1, 0);
        r.tick(4);
        r.keep(key, keep);
        return r;
    }

    private static void itsEnd() {
        Run r = withKept(1, 6);
        Due.due("kept(1)", r.kept(1), 10);
        r.tick(3);
        Due.due("kept(1) later", r.kept(1), 10);
    }

    private static void alsoWhenItIsNow() {
        Run r = withKept(1, 6);
        Due.due("tick(6)", r.tick(6), 10);
        Due.due("kept(1)", r.kept(1), 10);
    }

    private static void alsoWhenItIsBelowNow() {
        Run r = withKept(1, 6);
        Due.due("tick(7)", r.tick(7), 11);
        Due.due("kept(1)", r.kept(1), 10);
        r.tick(1000);
        Due.due("kept(1) much later", r.kept(1), 10);
        Due.due("told(9)", r.told(9), 1);
    }

    private static void ofAnyKey() {
        long[] keys = {0, Long.MIN_VALUE, Long.MAX_VALUE, -1, 1L << 32};
        Run r = new Run(1, 0);
        for (int i = 0; i < keys.length; i++) {
            r.keep(keys[i], i + 1);
        }
        Due.dueAll("ends", r.ends(keys), "1 2 3 4 5");
    }

    private static void noneIsKept() {
        Refused.none("kept(0)", Refused::fresh, r -> r.kept(0));
        Run r = Run.with(1, 0, 1);
        r.answer(0);
        Due.due("kept(1) with KEEP 0", r.kept(1), -1);
    }

    private static void noneIsKeptForThisKey() {
        long[] others = {0, 2, -1, Long.MIN_VALUE, Long.MAX_VALUE, (1L << 32) + 1};
        Run r = withKept(1, 6);
        for (long key : others) {
            Due.due("kept(" + key + ")", r.kept(key), -1);
        }
        Refused.none("kept(12345)", Refused::busy, x -> x.kept(12345));
    }

    private static void noneIsKeptBehindARestart() {
        Run r = withKept(1, 6);
        r.save();
        r.restart();
        Due.due("kept(1)", r.kept(1), -1);
        Due.due("told(9)", r.told(9), 0);
    }
}
