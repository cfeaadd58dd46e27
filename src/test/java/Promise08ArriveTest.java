/** Promise 8: arrive. What an answer that arrives does stands in the terms. */
public final class Promise08ArriveTest {
    private static final String HERE = "Promise 8";

    public static void main(String[] args) {
        all();
        Due.end();
    }

    static void all() {
        String arrive = "The k-th answer under way arrives: whether a ROW was SETTLED by that (1, 0).";
        Sentences.test(HERE, arrive, Promise08ArriveTest::theFirstOne);
        Sentences.test(HERE, arrive, Promise08ArriveTest::theLastOne);
        Sentences.test(HERE, arrive, Promise08ArriveTest::oneBetween);
        Sentences.test(HERE, arrive, Promise08ArriveTest::theHundredth);
        Sentences.test(HERE, arrive, Promise08ArriveTest::itIs1AlsoWhenTheRowGoesOutAtOnce);
        Sentences.test(HERE, arrive, Promise08ArriveTest::itIs0WhenItComesTwice);
        Sentences.test(HERE, arrive, Promise08ArriveTest::itIs0WhenItIsTriedAgain);
        Sentences.test(HERE, arrive, Promise08ArriveTest::itIs0WhenOnlyAnotherRowIsSettledByGoingOn);
        Sentences.test(HERE, "NONE.", Promise08ArriveTest::thereIsNoSuchAnswer);
        Sentences.test(HERE, "NONE.", Promise08ArriveTest::noAnswerIsUnderWay);
        Sentences.test(HERE, "NONE.", Promise08ArriveTest::the101stIsNotThere);
    }

    /** Three answers under way, of rows 0, 1 and 2, the second one with a cause. */
    private static Run three() {
        Run r = Run.with(3, 1, 1, 2, 3);
        r.serve(0);
        r.refuse(0, 2);
        r.serve(0);
        return r;
    }

    private static void theFirstOne() {
        Run r = three();
        Due.due("arrive(0)", r.arrive(0), 1);
        Due.dueAll("answers", r.answers(), "1 2");
        Due.dueAll("results", r.results(), "0 -1 -1");
        Due.dueAll("values", r.values(), "101 0 0");
    }

    private static void theLastOne() {
        Run r = three();
        Due.due("arrive(2)", r.arrive(2), 1);
        Due.dueAll("answers", r.answers(), "0 1");
        Due.dueAll("results", r.results(), "-1 -1 0");
        Due.dueAll("values", r.values(), "0 0 301");
    }

    private static void oneBetween() {
        Run r = three();
        Due.due("arrive(1)", r.arrive(1), 1);
        Due.dueAll("answers", r.answers(), "0 2");
        Due.dueAll("results", r.results(), "-1 2 -1");
        Due.dueAll("values", r.values(), "0 2 0");
        r.arrive(1);
        r.arrive(0);
        Due.dueAll("values", r.values(), "101 2 301");
    }

    private static void theHundredth() {
        Run r = Run.with(2, 0, 1, 2);
        r.serve(0);
        r.fill(1, 99);
        r.serve(0);
        Due.due("arrive(99)", r.arrive(99), 1);
        Due.due("item(1, 1)", r.item(1, 1), 0);
        Due.due("told(8)", r.told(8), 99);
    }

    private static void itIs1AlsoWhenTheRowGoesOutAtOnce() {
        Run r = Run.with(1, 1, 1);
        r.serve(0);
        Due.due("arrive(0)", r.arrive(0), 1);
        Due.due("item(0, 0)", r.item(0, 0), 3);
    }

    private static void itIs0WhenItComesTwice() {
        Run r = Run.with(2, 1, 1, 2);
        r.serve(1);
        r.twice(1, 0);
        Due.due("arrive(0)", r.arrive(0), 1);
        Due.due("arrive(0) for one that is settled", r.arrive(0), 0);
        Due.due("told(8)", r.told(8), 0);
        Due.due("item(1, 0)", r.item(1, 0), 2);
    }

    private static void itIs0WhenItIsTriedAgain() {
        Run r = Run.with(1, 1, 1);
        r.set(4, 1);
        r.refuse(0, 1);
        Due.due("arrive(0)", r.arrive(0), 0);
        Due.due("item(0, 0)", r.item(0, 0), 1);
    }

    /** Row 0 is answered twice; the second time nothing is settled, though row 1 was by the first. */
    private static void itIs0WhenOnlyAnotherRowIsSettledByGoingOn() {
        Run r = new Run(1, 0);
        r.set(3, 50);
        r.rows(1, 1);
        r.serve(0);
        r.twice(1, 0);
        Due.due("arrive(0)", r.arrive(0), 1);
        Due.dueAll("results: row 1 by what is kept", r.results(), "0 1");
        Due.due("arrive(0)", r.arrive(0), 0);
    }

    private static void thereIsNoSuchAnswer() {
        int answers = Refused.busy().told(8);
        int[] wrong = {-1, -2, Integer.MIN_VALUE, answers, answers + 1, 99, 100, 101, Integer.MAX_VALUE};
        for (int k : wrong) {
            Refused.none("arrive(" + k + ")", Refused::busy, r -> r.arrive(k));
        }
    }

    private static void noAnswerIsUnderWay() {
        Refused.none("arrive(0)", Refused::fresh, r -> r.arrive(0));
        Run r = Run.with(1, 1, 1);
        Due.due("arrive(0) when there are asks alone", r.arrive(0), -1);
        r.answer(0);
        Due.due("arrive(0) when it has arrived", r.arrive(0), -1);
    }

    private static void the101stIsNotThere() {
        Refused.none("arrive(100)", Refused::fullLines, r -> r.arrive(100));
        Refused.none("arrive(-1)", Refused::fullLines, r -> r.arrive(-1));
    }
}
