/** Promise 6: serve. How the service answers stands in the terms. */
public final class Promise06ServeTest {
    private static final String HERE = "Promise 6";

    public static void main(String[] args) {
        all();
        Due.end();
    }

    static void all() {
        String serve = "The k-th ask under way comes to the service: whether it acted (COUNT grew: 1, 0).";
        Sentences.test(HERE, serve, Promise06ServeTest::theFirstOne);
        Sentences.test(HERE, serve, Promise06ServeTest::theLastOne);
        Sentences.test(HERE, serve, Promise06ServeTest::oneBetween);
        Sentences.test(HERE, serve, Promise06ServeTest::theHundredth);
        Sentences.test(HERE, serve, Promise06ServeTest::whetherItActed);
        Sentences.test(HERE, "NONE.", Promise06ServeTest::thereIsNoSuchAsk);
        Sentences.test(HERE, "NONE.", Promise06ServeTest::noAskIsUnderWay);
        Sentences.test(HERE, "NONE.", Promise06ServeTest::the101stIsNotThere);
    }

    private static void theFirstOne() {
        Run r = Run.with(3, 1, 1, 2, 3);
        Due.due("serve(0)", r.serve(0), 1);
        Due.dueAll("asks", r.asks(), "1 2");
        Due.dueAll("answers", r.answers(), "0");
        Due.dueAll("counts", r.counts(1, 2, 3), "1 0 0");
        Due.dueAll("states: the answer has not arrived", r.states(), "1 1 1");
    }

    private static void theLastOne() {
        Run r = Run.with(3, 1, 1, 2, 3);
        Due.due("serve(2)", r.serve(2), 1);
        Due.dueAll("asks", r.asks(), "0 1");
        Due.dueAll("answers", r.answers(), "2");
        Due.dueAll("counts", r.counts(1, 2, 3), "0 0 1");
    }

    private static void oneBetween() {
        Run r = Run.with(3, 1, 1, 2, 3);
        Due.due("serve(1)", r.serve(1), 1);
        Due.dueAll("asks", r.asks(), "0 2");
        Due.due("serve(1)", r.serve(1), 1);
        Due.dueAll("asks", r.asks(), "0");
        Due.dueAll("answers", r.answers(), "1 2");
    }

    private static void theHundredth() {
        Run r = Run.with(2, 1, 1);
        r.fill(0, 99);
        r.rows(2);
        Due.due("serve(99)", r.serve(99), 1);
        Due.due("count(2)", r.count(2), 1);
        Due.due("under(1, 0)", r.under(1, 0), 1);
        Due.due("told(7)", r.told(7), 99);
    }

    private static void whetherItActed() {
        Run r = Run.with(2, 1, 1, 1);
        r.twice(0, 0);
        Due.due("serve(0)", r.serve(0), 1);
        Due.due("count(1)", r.count(1), 1);
        Due.due("serve(0) of another row of the key", r.serve(0), 1);
        Due.due("count(1)", r.count(1), 2);
        Due.due("serve(0) of the first row again", r.serve(0), 0);
        Due.due("count(1)", r.count(1), 2);
        Due.due("told(8)", r.told(8), 3);
    }

    private static void thereIsNoSuchAsk() {
        int asks = Refused.busy().told(7);
        int[] wrong = {-1, -2, Integer.MIN_VALUE, asks, asks + 1, 99, 100, 101, Integer.MAX_VALUE};
        for (int k : wrong) {
            Refused.none("serve(" + k + ")", Refused::busy, r -> r.serve(k));
        }
    }

    private static void noAskIsUnderWay() {
        Refused.none("serve(0)", Refused::fresh, r -> r.serve(0));
        Run r = Run.with(1, 1, 1);
        r.serve(0);
        Due.due("serve(0) when it is gone", r.serve(0), -1);
        Due.due("told(8)", r.told(8), 1);
        Due.due("count(1)", r.count(1), 1);
    }

    private static void the101stIsNotThere() {
        Refused.none("serve(100)", Refused::fullLines, r -> r.serve(100));
        Refused.none("serve(-1)", Refused::fullLines, r -> r.serve(-1));
    }
}
