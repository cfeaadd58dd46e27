/** Promise 15: count. When a COUNT grows stands in the terms. */
public final class Promise15CountTest {
    private static final String HERE = "Promise 15";

    public static void main(String[] args) {
        all();
        Due.end();
    }

    static void all() {
        Sentences.test(HERE, "COUNT of a KEY.", Promise15CountTest::anyKeyHasItsOwn);
        Sentences.test(HERE, "COUNT of a KEY.", Promise15CountTest::aKeyThatNeverCameHas0);
        Sentences.test(HERE, "COUNT of a KEY.", Promise15CountTest::itStaysBehindARestart);
        Sentences.test(HERE, "COUNT of a KEY.", Promise15CountTest::asManyKeysAsRows);
        Sentences.test(HERE, "COUNT of a KEY.", Promise15CountTest::ofTheLastRowThatCanCome);
    }

    private static void anyKeyHasItsOwn() {
        long[] keys = {0, Long.MIN_VALUE, Long.MAX_VALUE, -1, 1L << 32, 1};
        Run r = new Run(16, 0);
        for (long key : keys) {
            r.row(key, 0);
        }
        r.row(0, 0);
        Due.dueAll("counts before", r.counts(keys), "0 0 0 0 0 0");
        r.serve(6);
        r.serve(0);
        Due.dueAll("counts", r.counts(keys), "2 0 0 0 0 0");
        r.serve(0);
        r.serve(1);
        Due.dueAll("counts", r.counts(keys), "2 1 0 1 0 0");
        r.serve(0);
        r.serve(0);
        r.serve(0);
        Due.dueAll("counts", r.counts(keys), "2 1 1 1 1 1");
    }

    private static void aKeyThatNeverCameHas0() {
        Run r = Run.with(1, 1, 1);
        r.answer(0);
        Due.dueAll("counts", r.counts(0, 2, -1, Long.MIN_VALUE, Long.MAX_VALUE), "0 0 0 0 0");
        Refused.call("count(12345)", Refused::busy, x -> x.count(12345), 0);
        Refused.call("count(0)", Refused::fresh, x -> x.count(0), 0);
    }

    private static void itStaysBehindARestart() {
        Run r = Run.with(2, 1, 1, 1);
        r.serve(0);
        r.serve(0);
        r.restart();
        Due.due("count(1)", r.count(1), 2);
    }

    private static void asManyKeysAsRows() {
        Run r = new Run(1, 0);
        r.set(0, 1);
        r.set(1, 1);
        for (int i = 0; i < 160; i++) {
            r.row(1000 + i, 0);
            r.serve(0);
            r.tick(1);
        }
        for (int i = 0; i < 160; i++) {
            int key = 1000 + i;
            Due.due("count(" + key + ")", r.look(x -> x.count(key)), 1);
        }
    }

    private static void ofTheLastRowThatCanCome() {
        Run r = new Run(1, 0);
        r.manyMarks(299);
        r.row(77, 7);
        r.serve(0);
        Due.due("count(77)", r.count(77), 1);
        Due.due("arrive(0)", r.arrive(0), 1);
        Due.due("value(299)", r.value(299), 8);
    }
}
