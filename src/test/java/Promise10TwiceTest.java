/** Promise 10: twice. */
public final class Promise10TwiceTest {
    private static final String HERE = "Promise 10";

    public static void main(String[] args) {
        all();
        Due.end();
    }

    static void all() {
        String twice = "It sets out once more, behind the others: how many there are.";
        Sentences.test(HERE, twice, Promise10TwiceTest::anAsk);
        Sentences.test(HERE, twice, Promise10TwiceTest::anAnswerWithItsCauseAndValue);
        Sentences.test(HERE, twice, Promise10TwiceTest::itIsNotSentAgain);
        Sentences.test(HERE, twice, Promise10TwiceTest::theLastOfTheLine);
        String none = "NONE; FULL: 100.";
        Sentences.test(HERE, none, Promise10TwiceTest::thereIsNoSuchLine);
        Sentences.test(HERE, none, Promise10TwiceTest::thereIsNoSuchAsk);
        Sentences.test(HERE, none, Promise10TwiceTest::thereIsNoSuchAnswer);
        Sentences.test(HERE, none, Promise10TwiceTest::anEmptyLine);
        Sentences.test(HERE, none, Promise10TwiceTest::theHundredthHasRoom);
        Sentences.test(HERE, none, Promise10TwiceTest::fullWith100Asks);
        Sentences.test(HERE, none, Promise10TwiceTest::fullWith100Answers);
        Sentences.test(HERE, none, Promise10TwiceTest::oneLineIsFullTheOtherIsNot);
        Sentences.test(HERE, none, Promise10TwiceTest::noneIsAheadOfFull);
    }

    private static void anAsk() {
        Run r = Run.with(3, 1, 1, 2, 3);
        Due.due("twice(0, 0)", r.twice(0, 0), 4);
        Due.dueAll("asks", r.asks(), "0 1 2 0");
        Due.due("twice(0, 1)", r.twice(0, 1), 5);
        Due.dueAll("asks", r.asks(), "0 1 2 0 1");
        Due.due("told(8)", r.told(8), 0);
    }

    private static void anAnswerWithItsCauseAndValue() {
        Run r = Run.with(2, 1, 1, 2);
        r.refuse(0, 3);
        r.serve(0);
        Due.due("twice(1, 0)", r.twice(1, 0), 3);
        Due.due("twice(1, 1)", r.twice(1, 1), 4);
        Due.dueAll("answers", r.answers(), "0 1 0 1");
        Due.due("arrive(3)", r.arrive(3), 1);
        Due.due("arrive(2)", r.arrive(2), 1);
        Due.dueAll("results", r.results(), "2 0");
        Due.dueAll("values", r.values(), "3 201");
        Due.due("arrive(1)", r.arrive(1), 0);
        Due.due("arrive(0)", r.arrive(0), 0);
    }

    private static void itIsNotSentAgain() {
        Run r = new Run(1, 1);
        r.set(2, 1);
        r.rows(1);
        r.tick(3);
        Due.due("twice(0, 0)", r.twice(0, 0), 2);
        Due.due("told(10)", r.told(10), 1);
        Due.due("told(11)", r.told(11), 0);
        Due.due("item(0, 2)", r.item(0, 2), 1);
        r.tick(7);
        Due.due("item(0, 2): it is DUE as before", r.item(0, 2), 2);
    }

    private static void theLastOfTheLine() {
        Run r = Run.with(2, 1, 1, 2);
        Due.due("twice(0, 1)", r.twice(0, 1), 3);
        Due.due("twice(0, 2)", r.twice(0, 2), 4);
        Due.dueAll("asks", r.asks(), "0 1 1 1");
    }

    private static void thereIsNoSuchLine() {
        int[] wrong = {-1, 2, 3, Integer.MIN_VALUE, Integer.MAX_VALUE};
        for (int line : wrong) {
            Refused.none("twice(" + line + ", 0)", Refused::busy, r -> r.twice(line, 0));
            Refused.none("twice(" + line + ", 0) with full lines", Refused::fullLines, r -> r.twice(line, 0));
        }
    }

    private static void thereIsNoSuchAsk() {
        int asks = Refused.busy().told(7);
        int[] wrong = {-1, Integer.MIN_VALUE, asks, 99, 100, Integer.MAX_VALUE};
        for (int k : wrong) {
            Refused.none("twice(0, " + k + ")", Refused::busy, r -> r.twice(0, k));
        }
    }

    private static void thereIsNoSuchAnswer() {
        int answers = Refused.busy().told(8);
        int[] wrong = {-1, Integer.MIN_VALUE, answers, 99, 100, Integer.MAX_VALUE};
        for (int k : wrong) {
            Refused.none("twice(1, " + k + ")", Refused::busy, r -> r.twice(1, k));
        }
    }

    private static void anEmptyLine() {
        Refused.none("twice(0, 0)", Refused::fresh, r -> r.twice(0, 0));
        Refused.none("twice(1, 0)", Refused::fresh, r -> r.twice(1, 0));
    }

    private static void theHundredthHasRoom() {
        for (int line = 0; line <= 1; line++) {
            Run r = Run.with(1, 1, 1);
            if (line == 1) {
                r.serve(0);
            }
            for (int n = 2; n <= 100; n++) {
                Due.due("twice(" + line + ", " + (n - 2) + ")", r.twice(line, n - 2), n);
            }
            Due.due("under(" + line + ", 99)", r.under(line, 99), 0);
        }
    }

    private static void fullWith100Asks() {
        Refused.full("twice(0, 0)", Refused::fullLines, r -> r.twice(0, 0));
        Refused.full("twice(0, 99)", Refused::fullLines, r -> r.twice(0, 99));
        Run r = Refused.fullLines();
        r.twice(0, 50);
        r.lose(0, 0);
        Due.due("twice(0, 98) when there is room again", r.twice(0, 98), 100);
    }

    private static void fullWith100Answers() {
        Refused.full("twice(1, 0)", Refused::fullLines, r -> r.twice(1, 0));
        Refused.full("twice(1, 99)", Refused::fullLines, r -> r.twice(1, 99));
        Run r = Refused.fullLines();
        r.twice(1, 50);
        r.lose(1, 0);
        Due.due("twice(1, 98) when there is room again", r.twice(1, 98), 100);
    }

    private static void oneLineIsFullTheOtherIsNot() {
        Run asks = Run.with(2, 1, 1, 2);
        asks.serve(0);
        asks.fill(0, 100);
        Due.due("twice(1, 0) when the asks are full", asks.twice(1, 0), 2);
        Run answers = Run.with(2, 1, 1, 2);
        answers.serve(0);
        answers.fill(1, 100);
        Due.due("twice(0, 0) when the answers are full", answers.twice(0, 0), 2);
    }

    /** The document has no rule for this; there is no such thing that could find the line full. */
    private static void noneIsAheadOfFull() {
        int[] wrong = {-1, 100, Integer.MAX_VALUE};
        for (int k : wrong) {
            Refused.none("twice(0, " + k + ")", Refused::fullLines, r -> r.twice(0, k));
            Refused.none("twice(1, " + k + ")", Refused::fullLines, r -> r.twice(1, k));
        }
    }
}
