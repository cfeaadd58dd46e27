/** Promise 12: out. When ITEMS go OUT stands in the terms. */
public final class Promise12OutTest {
    private static final String HERE = "Promise 12";

    public static void main(String[] args) {
        all();
        Due.end();
    }

    static void all() {
        String out = "Of the k-th ITEM that went OUT: what = 0 its number, 1 its RESULT, 2 the TICK in which it went.";
        Sentences.test(HERE, out, Promise12OutTest::itsNumber);
        Sentences.test(HERE, out, Promise12OutTest::itsResult);
        Sentences.test(HERE, out, Promise12OutTest::theTickInWhichItWentNotThatOfItsSettling);
        Sentences.test(HERE, out, Promise12OutTest::the300th);
        Sentences.test(HERE, "NONE.", Promise12OutTest::noneWentOut);
        Sentences.test(HERE, "NONE.", Promise12OutTest::notSoManyWentOut);
        Sentences.test(HERE, "NONE.", Promise12OutTest::thereIsNoSuchWhat);
        Sentences.test(HERE, "NONE.", Promise12OutTest::whatWasTakenBackIsNone);
    }

    private static void itsNumber() {
        Run r = Run.with(3, 0, 1, 2, 3);
        r.answer(2);
        r.answer(0);
        Due.due("out(0, 0)", r.out(0, 0), 2);
        Due.due("out(1, 0)", r.out(1, 0), 0);
        Due.due("out(2, 0)", r.out(2, 0), -1);
        r.answer(1);
        Due.due("out(2, 0)", r.out(2, 0), 1);
    }

    private static void itsResult() {
        Run r = new Run(5, 0);
        r.set(3, 50);
        r.set(5, 2);
        r.rows(1, 2, 3, 4);
        r.answer(3);
        r.fail(2, 2);
        r.fail(1, 1);
        r.tick(20);
        r.rows(4);
        r.mark();
        Due.dueAll("outs", r.outs(), "3 2 1 0 4 5");
        Due.dueAll("results", r.outResults(), "0 4 2 3 1 5");
    }

    private static void theTickInWhichItWentNotThatOfItsSettling() {
        Run r = Run.with(2, 1, 1, 2);
        r.tick(1);
        r.answer(1);
        r.tick(2);
        r.answer(0);
        Due.due("out(0, 2)", r.out(0, 2), 3);
        Due.due("out(1, 2)", r.out(1, 2), 3);
        r.tick(4);
        r.mark();
        Due.due("out(2, 2)", r.out(2, 2), 7);
        Due.due("out(0, 2) later", r.out(0, 2), 3);
    }

    private static void the300th() {
        Run r = new Run(1, 1);
        r.tick(5);
        r.manyMarks(300);
        Due.due("out(299, 0)", r.out(299, 0), 299);
        Due.due("out(299, 1)", r.out(299, 1), 5);
        Due.due("out(299, 2)", r.out(299, 2), 5);
        Due.due("out(300, 0)", r.out(300, 0), -1);
    }

    private static void noneWentOut() {
        for (int what = 0; what <= 2; what++) {
            int asked = what;
            Refused.none("out(0, " + what + ")", Refused::fresh, r -> r.out(0, asked));
        }
    }

    private static void notSoManyWentOut() {
        int outs = Refused.busy().told(2);
        int[] wrong = {-1, Integer.MIN_VALUE, outs, outs + 1, 299, 300, Integer.MAX_VALUE};
        for (int k : wrong) {
            for (int what = 0; what <= 2; what++) {
                int asked = what;
                Refused.none("out(" + k + ", " + what + ")", Refused::busy, r -> r.out(k, asked));
            }
        }
    }

    private static void thereIsNoSuchWhat() {
        int[] wrong = {-1, 3, 4, Integer.MIN_VALUE, Integer.MAX_VALUE};
        for (int what : wrong) {
            Refused.none("out(0, " + what + ")", Refused::busy, r -> r.out(0, what));
        }
    }

    private static void whatWasTakenBackIsNone() {
        Run r = Run.with(2, 0, 1, 2);
        r.answer(0);
        r.save();
        r.answer(1);
        Due.due("out(1, 0)", r.out(1, 0), 1);
        r.restart();
        for (int what = 0; what <= 2; what++) {
            Due.due("out(1, " + what + ") behind a restart", r.out(1, what), -1);
        }
        Due.due("out(0, 0) behind a restart", r.out(0, 0), 0);
    }
}
