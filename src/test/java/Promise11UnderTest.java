/** Promise 11: under. */
public final class Promise11UnderTest {
    private static final String HERE = "Promise 11";

    public static void main(String[] args) {
        all();
        Due.end();
    }

    static void all() {
        String under = "The ROW that the k-th ask (line 0), answer (1) is of; NONE.";
        Sentences.test(HERE, under, Promise11UnderTest::ofAnAsk);
        Sentences.test(HERE, under, Promise11UnderTest::ofAnAnswer);
        Sentences.test(HERE, under, Promise11UnderTest::ofRowsThatAreOutOrGone);
        Sentences.test(HERE, under, Promise11UnderTest::theHundredthButNotThe101st);
        Sentences.test(HERE, under, Promise11UnderTest::thereIsNoSuchLine);
        Sentences.test(HERE, under, Promise11UnderTest::thereIsNoSuchPlace);
        Sentences.test(HERE, under, Promise11UnderTest::anEmptyLine);
    }

    private static void ofAnAsk() {
        Run r = Run.with(3, 1, 1, 2, 3);
        r.lose(0, 1);
        Due.due("under(0, 0)", r.under(0, 0), 0);
        Due.due("under(0, 1)", r.under(0, 1), 2);
        Due.due("under(0, 2)", r.under(0, 2), -1);
        Due.due("under(1, 0)", r.under(1, 0), -1);
    }

    private static void ofAnAnswer() {
        Run r = Run.with(3, 1, 1, 2, 3);
        r.serve(2);
        r.refuse(1, 1);
        Due.due("under(1, 0)", r.under(1, 0), 2);
        Due.due("under(1, 1)", r.under(1, 1), 1);
        Due.due("under(1, 2)", r.under(1, 2), -1);
        Due.due("under(0, 0)", r.under(0, 0), 0);
    }

    private static void ofRowsThatAreOutOrGone() {
        Run r = Run.with(2, 0, 1, 2);
        r.twice(0, 1);
        r.answer(1);
        Due.due("under(0, 1) of one that is out", r.under(0, 1), 1);
        r.serve(0);
        r.restart();
        Due.due("under(0, 0) of a gone one", r.under(0, 0), 1);
        Due.due("under(1, 0) of a gone one", r.under(1, 0), 0);
    }

    private static void theHundredthButNotThe101st() {
        for (int line = 0; line <= 1; line++) {
            int way = line;
            Run r = Refused.fullLines();
            Due.due("under(" + line + ", 99) is there", r.under(line, 99) == -1 ? 0 : 1, 1);
            Refused.none("under(" + line + ", 100)", Refused::fullLines, x -> x.under(way, 100));
        }
    }

    private static void thereIsNoSuchLine() {
        int[] wrong = {-1, 2, 3, Integer.MIN_VALUE, Integer.MAX_VALUE};
        for (int line : wrong) {
            Refused.none("under(" + line + ", 0)", Refused::busy, r -> r.under(line, 0));
        }
    }

    private static void thereIsNoSuchPlace() {
        for (int line = 0; line <= 1; line++) {
            int way = line;
            int[] wrong = {-1, Integer.MIN_VALUE, Refused.busy().told(7 + line), 99, 100, Integer.MAX_VALUE};
            for (int k : wrong) {
                Refused.none("under(" + line + ", " + k + ")", Refused::busy, r -> r.under(way, k));
            }
        }
    }

    private static void anEmptyLine() {
        Refused.none("under(0, 0)", Refused::fresh, r -> r.under(0, 0));
        Refused.none("under(1, 0)", Refused::fresh, r -> r.under(1, 0));
    }
}
