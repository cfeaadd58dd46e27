/** Promise 13: value. */
public final class Promise13ValueTest {
    private static final String HERE = "Promise 13";

    public static void main(String[] args) {
        all();
        Due.end();
    }

    static void all() {
        String value = "The value with which an ITEM is SETTLED or went OUT;";
        Sentences.test(HERE, value, Promise13ValueTest::ofOneThatIsSettled);
        Sentences.test(HERE, value, Promise13ValueTest::ofOneThatWentOut);
        Sentences.test(HERE, value, Promise13ValueTest::theGreatestAndTheLeast);
        String others = "0 of others, and where there is none such.";
        Sentences.test(HERE, others, Promise13ValueTest::ofOneThatIsWaitingOrWorking);
        Sentences.test(HERE, others, Promise13ValueTest::ofOneThatIsGone);
        Sentences.test(HERE, others, Promise13ValueTest::ofOneThatWorksAgainBehindARestart);
        Sentences.test(HERE, others, Promise13ValueTest::ofNoItem);
        Sentences.test(HERE, others, Promise13ValueTest::ofThe301st);
    }

    private static void ofOneThatIsSettled() {
        Run r = Run.with(3, 1, 1, 2, 3);
        r.answer(1);
        r.fail(2, 3);
        Due.dueAll("states", r.states(), "1 2 2");
        Due.due("value(1)", r.value(1), 201);
        Due.due("value(2) of a cause", r.value(2), 3);
    }

    private static void ofOneThatWentOut() {
        Run r = Run.with(1, 1, 1);
        r.answer(0);
        r.mark();
        Due.dueAll("states", r.states(), "3 3");
        Due.due("value(0)", r.value(0), 101);
        Due.due("value(1) of a mark", r.value(1), 0);
        r.tick(100);
        Due.due("value(0) later", r.value(0), 101);
    }

    private static void theGreatestAndTheLeast() {
        Run r = new Run(2, 1);
        r.row(1, Long.MAX_VALUE - 1);
        r.row(2, Long.MAX_VALUE);
        r.answer(0);
        r.answer(1);
        Due.due("value(0)", r.value(0), Long.MAX_VALUE);
        Due.due("value(1)", r.value(1), Long.MIN_VALUE);
    }

    private static void ofOneThatIsWaitingOrWorking() {
        Run r = Run.with(1, 1, 1, 2);
        Due.dueAll("states", r.states(), "1 0");
        Due.due("value(0)", r.value(0), 0);
        Due.due("value(1)", r.value(1), 0);
        r.serve(0);
        Due.due("value(0) while its answer is under way", r.value(0), 0);
    }

    private static void ofOneThatIsGone() {
        Run r = Run.with(2, 1, 1, 2);
        r.answer(0);
        r.answer(1);
        r.restart();
        Due.dueAll("states", r.states(), "4 4");
        Due.due("value(0)", r.value(0), 0);
        Due.due("value(1)", r.value(1), 0);
    }

    private static void ofOneThatWorksAgainBehindARestart() {
        Run r = Run.with(1, 1, 1, 2);
        r.save();
        r.answer(0);
        r.answer(1);
        r.restart();
        Due.dueAll("states", r.states(), "1 0");
        Due.due("value(0)", r.value(0), 0);
        Due.due("value(1)", r.value(1), 0);
    }

    private static void ofNoItem() {
        int items = Refused.busy().told(1);
        int[] wrong = {-1, Integer.MIN_VALUE, items, items + 1, 299, 300, Integer.MAX_VALUE};
        for (int item : wrong) {
            Refused.call("value(" + item + ")", Refused::busy, r -> r.value(item), 0);
        }
        Refused.call("value(0)", Refused::fresh, r -> r.value(0), 0);
    }

    private static void ofThe301st() {
        Refused.call("value(300)", Refused::fullOfItems, r -> r.value(300), 0);
        Run r = new Run(1, 0);
        r.manyMarks(299);
        int last = r.row(5, 500);
        r.answer(last);
        Due.due("value(299)", r.value(299), 501);
        Due.due("value(300)", r.value(300), 0);
    }
}
