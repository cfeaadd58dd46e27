/** Promise 9: lose. */
public final class Promise09LoseTest {
    private static final String HERE = "Promise 9";

    public static void main(String[] args) {
        all();
        Due.end();
    }

    static void all() {
        String lose = "The k-th ask (line 0) or answer (1) under way is lost: how many are under way there then.";
        Sentences.test(HERE, lose, Promise09LoseTest::anAsk);
        Sentences.test(HERE, lose, Promise09LoseTest::anAnswer);
        Sentences.test(HERE, lose, Promise09LoseTest::theLastOneLeaves0);
        Sentences.test(HERE, lose, Promise09LoseTest::oneOfAHundredLeaves99);
        Sentences.test(HERE, lose, Promise09LoseTest::itsRowStaysAsItWas);
        Sentences.test(HERE, "NONE.", Promise09LoseTest::thereIsNoSuchLine);
        Sentences.test(HERE, "NONE.", Promise09LoseTest::thereIsNoSuchAsk);
        Sentences.test(HERE, "NONE.", Promise09LoseTest::thereIsNoSuchAnswer);
        Sentences.test(HERE, "NONE.", Promise09LoseTest::anEmptyLine);
        Sentences.test(HERE, "NONE.", Promise09LoseTest::the101stIsNotThere);
    }

    private static void anAsk() {
        Run r = Run.with(3, 1, 1, 2, 3);
        r.serve(0);
        Due.due("lose(0, 1)", r.lose(0, 1), 1);
        Due.dueAll("asks", r.asks(), "1");
        Due.dueAll("answers", r.answers(), "0");
    }

    private static void anAnswer() {
        Run r = Run.with(4, 1, 1, 2, 3, 4);
        r.serve(2);
        r.refuse(1, 2);
        r.serve(0);
        Due.due("lose(1, 0)", r.lose(1, 0), 2);
        Due.dueAll("answers", r.answers(), "1 0");
        Due.dueAll("asks", r.asks(), "3");
        r.arrive(0);
        r.arrive(0);
        Due.dueAll("the others keep their causes and values", r.values(), "101 2 0 0");
    }

    private static void theLastOneLeaves0() {
        Run r = Run.with(2, 1, 1, 2);
        r.serve(0);
        Due.due("lose(0, 0)", r.lose(0, 0), 0);
        Due.due("lose(1, 0)", r.lose(1, 0), 0);
        Due.due("told(7)", r.told(7), 0);
        Due.due("told(8)", r.told(8), 0);
    }

    private static void oneOfAHundredLeaves99() {
        for (int line = 0; line <= 1; line++) {
            Run first = Refused.fullLines();
            Due.due("lose(" + line + ", 0)", first.lose(line, 0), 99);
            Run last = Refused.fullLines();
            Due.due("lose(" + line + ", 99)", last.lose(line, 99), 99);
            Due.due("lose(" + line + ", 99) again", last.lose(line, 99), -1);
        }
    }

    private static void itsRowStaysAsItWas() {
        Run r = Run.with(1, 1, 1);
        r.lose(0, 0);
        Due.due("item(0, 0)", r.item(0, 0), 1);
        Due.due("item(0, 2)", r.item(0, 2), 1);
        Due.due("told(10)", r.told(10), 1);
        Due.due("told(11)", r.told(11), 1);
        r.tick(9);
        Due.due("told(7) before it is due", r.told(7), 0);
        r.tick(1);
        Due.due("told(7) when it is due", r.told(7), 1);
    }

    private static void thereIsNoSuchLine() {
        int[] wrong = {-1, 2, 3, Integer.MIN_VALUE, Integer.MAX_VALUE};
        for (int line : wrong) {
            Refused.none("lose(" + line + ", 0)", Refused::busy, r -> r.lose(line, 0));
            Refused.none("lose(" + line + ", 0) on full lines", Refused::fullLines, r -> r.lose(line, 0));
        }
    }

    private static void thereIsNoSuchAsk() {
        int asks = Refused.busy().told(7);
        int[] wrong = {-1, Integer.MIN_VALUE, asks, 99, 100, Integer.MAX_VALUE};
        for (int k : wrong) {
            Refused.none("lose(0, " + k + ")", Refused::busy, r -> r.lose(0, k));
        }
    }

    private static void thereIsNoSuchAnswer() {
        int answers = Refused.busy().told(8);
        int[] wrong = {-1, Integer.MIN_VALUE, answers, 99, 100, Integer.MAX_VALUE};
        for (int k : wrong) {
            Refused.none("lose(1, " + k + ")", Refused::busy, r -> r.lose(1, k));
        }
    }

    private static void anEmptyLine() {
        Refused.none("lose(0, 0)", Refused::fresh, r -> r.lose(0, 0));
        Refused.none("lose(1, 0)", Refused::fresh, r -> r.lose(1, 0));
    }

    private static void the101stIsNotThere() {
        Refused.none("lose(0, 100)", Refused::fullLines, r -> r.lose(0, 100));
        Refused.none("lose(1, 100)", Refused::fullLines, r -> r.lose(1, 100));
    }
}
