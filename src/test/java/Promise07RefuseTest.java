/** Promise 7: refuse. What a CAUSE that arrives does stands in the terms. */
public final class Promise07RefuseTest {
    private static final String HERE = "Promise 7";

    public static void main(String[] args) {
        all();
        Due.end();
    }

    static void all() {
        String refuse = "The k-th ask under way comes to the service, which answers a CAUSE (1 .. 3) and does not act: 0.";
        Sentences.test(HERE, refuse, Promise07RefuseTest::theFirstOne);
        Sentences.test(HERE, refuse, Promise07RefuseTest::theLastOne);
        Sentences.test(HERE, refuse, Promise07RefuseTest::theHundredth);
        Sentences.test(HERE, refuse, Promise07RefuseTest::eachCause);
        Sentences.test(HERE, refuse, Promise07RefuseTest::itDoesNotAct);
        Sentences.test(HERE, "NONE.", Promise07RefuseTest::aCauseBelow1IsRefused);
        Sentences.test(HERE, "NONE.", Promise07RefuseTest::aCauseAbove3IsRefused);
        Sentences.test(HERE, "NONE.", Promise07RefuseTest::thereIsNoSuchAsk);
        Sentences.test(HERE, "NONE.", Promise07RefuseTest::noAskIsUnderWay);
        Sentences.test(HERE, "NONE.", Promise07RefuseTest::the101stIsNotThere);
    }

    private static void theFirstOne() {
        Run r = Run.with(3, 1, 1, 2, 3);
        Due.due("refuse(0, 1)", r.refuse(0, 1), 0);
        Due.dueAll("asks", r.asks(), "1 2");
        Due.dueAll("answers", r.answers(), "0");
        Due.dueAll("states: the answer has not arrived", r.states(), "1 1 1");
    }

    private static void theLastOne() {
        Run r = Run.with(3, 1, 1, 2, 3);
        Due.due("refuse(2, 1)", r.refuse(2, 1), 0);
        Due.due("refuse(1, 1)", r.refuse(1, 1), 0);
        Due.dueAll("asks", r.asks(), "0");
        Due.dueAll("answers", r.answers(), "2 1");
    }

    private static void theHundredth() {
        Run r = Run.with(2, 1, 1);
        r.fill(0, 99);
        r.rows(2);
        Due.due("refuse(99, 3)", r.refuse(99, 3), 0);
        Due.due("under(1, 0)", r.under(1, 0), 1);
        Due.due("told(7)", r.told(7), 99);
    }

    private static void eachCause() {
        for (int cause = 1; cause <= 3; cause++) {
            Run r = Run.with(1, 1, 1);
            Due.due("refuse(0, " + cause + ")", r.refuse(0, cause), 0);
            Due.due("arrive(0)", r.arrive(0), 1);
            Due.due("item(0, 1)", r.item(0, 1), 2);
            Due.due("value(0)", r.value(0), cause);
        }
    }

    private static void itDoesNotAct() {
        Run r = Run.with(1, 1, 1);
        r.twice(0, 0);
        r.refuse(0, 1);
        Due.due("count(1)", r.count(1), 0);
        Due.due("serve(0) of one that was refused before", r.serve(0), 1);
        Due.due("count(1)", r.count(1), 1);
        Due.due("arrive(1)", r.arrive(1), 1);
        Due.due("value(0)", r.value(0), 101);
    }

    private static void aCauseBelow1IsRefused() {
        int[] wrong = {0, -1, -3, Integer.MIN_VALUE};
        for (int cause : wrong) {
            Refused.none("refuse(0, " + cause + ")", Refused::busy, r -> r.refuse(0, cause));
        }
    }

    private static void aCauseAbove3IsRefused() {
        int[] wrong = {4, 5, 7, Integer.MAX_VALUE};
        for (int cause : wrong) {
            Refused.none("refuse(0, " + cause + ")", Refused::busy, r -> r.refuse(0, cause));
        }
    }

    private static void thereIsNoSuchAsk() {
        int asks = Refused.busy().told(7);
        int[] wrong = {-1, -2, Integer.MIN_VALUE, asks, asks + 1, 99, 100, 101, Integer.MAX_VALUE};
        for (int k : wrong) {
            Refused.none("refuse(" + k + ", 1)", Refused::busy, r -> r.refuse(k, 1));
        }
        Refused.none("refuse(-1, 4)", Refused::busy, r -> r.refuse(-1, 4));
    }

    private static void noAskIsUnderWay() {
        Refused.none("refuse(0, 1)", Refused::fresh, r -> r.refuse(0, 1));
        Run r = Run.with(1, 1, 1);
        r.refuse(0, 1);
        Due.due("refuse(0, 1) when it is gone", r.refuse(0, 1), -1);
        Due.due("told(8)", r.told(8), 1);
    }

    private static void the101stIsNotThere() {
        Refused.none("refuse(100, 1)", Refused::fullLines, r -> r.refuse(100, 1));
        Refused.none("refuse(0, 4) on full lines", Refused::fullLines, r -> r.refuse(0, 4));
    }
}
