/** Promise 19: told. */
public final class Promise19ToldTest {
    private static final String HERE = "Promise 19";

    public static void main(String[] args) {
        all();
        Due.end();
    }

    static void all() {
        Sentences.test(HERE, "0 NOW,", Promise19ToldTest::now);
        Sentences.test(HERE, "1 ITEMS,", Promise19ToldTest::items);
        Sentences.test(HERE, "2 how many went OUT,", Promise19ToldTest::howManyWentOut);
        Sentences.test(HERE, "3 WAITING, 4 WORKING, 5 SETTLED ones that are not OUT,", Promise19ToldTest::states);
        Sentences.test(HERE, "3 WAITING, 4 WORKING, 5 SETTLED ones that are not OUT,",
            Promise19ToldTest::oneThatIsSettledByAKeptAnswer);
        Sentences.test(HERE, "3 WAITING, 4 WORKING, 5 SETTLED ones that are not OUT,",
            Promise19ToldTest::thoseThatAreSettledOtherwise);
        Sentences.test(HERE, "3 WAITING, 4 WORKING, 5 SETTLED ones that are not OUT,",
            Promise19ToldTest::asSavedBehindARestart);
        Sentences.test(HERE, "6 how many are in THE QUEUE,", Promise19ToldTest::queue);
        Sentences.test(HERE, "7 and 8 asks and answers under way,", Promise19ToldTest::underWay);
        Sentences.test(HERE, "9 how many answers are KEPT,", Promise19ToldTest::kept);
        Sentences.test(HERE, "10 asks that were sent in all (lost ones, too),", Promise19ToldTest::sentInAll);
        Sentences.test(HERE, "11 how many were sent in this TICK,", Promise19ToldTest::sentInThisTick);
        Sentences.test(HERE, "12 how often there was RESTARTING.", Promise19ToldTest::restarts);
        Sentences.test(HERE, "NONE: another what.", Promise19ToldTest::belowZero);
        Sentences.test(HERE, "NONE: another what.", Promise19ToldTest::aboveTwelve);
    }

    private static void now() {
        Run r = new Run(1, 1);
        Due.due("told(0) at first", r.told(0), 0);
        r.tick(1000);
        r.tick(5);
        r.restart();
        Due.due("told(0)", r.told(0), 1005);
    }

    private static void items() {
        Run r = new Run(1, 1);
        Due.due("told(1) at first", r.told(1), 0);
        r.rows(1, 2);
        r.mark();
        Due.due("told(1)", r.told(1), 3);
        r.restart();
        Due.due("told(1) with gone ones", r.told(1), 3);
        r.mark();
        Due.due("told(1)", r.told(1), 4);
        Run full = Refused.fullOfItems();
        Due.due("told(1) of a full one", full.told(1), 300);
    }

    private static void howManyWentOut() {
        Run r = Run.with(2, 1, 1, 2);
        Due.due("told(2) at first", r.told(2), 0);
        r.answer(0);
        r.save();
        r.answer(1);
        r.mark();
        Due.due("told(2)", r.told(2), 3);
        r.restart();
        Due.due("told(2) when two are taken back", r.told(2), 1);
    }

    private static void states() {
        Run r = Run.with(3, 1, 1, 2, 3, 4, 5);
        r.mark();
        Due.due("told(3)", r.told(3), 2);
        Due.due("told(4)", r.told(4), 3);
        Due.due("told(5)", r.told(5), 1);
        r.answer(1);
        Due.due("told(3)", r.told(3), 1);
        Due.due("told(4)", r.told(4), 3);
        Due.due("told(5)", r.told(5), 2);
        r.answer(0);
        Due.due("told(3)", r.told(3), 0);
        Due.due("told(4)", r.told(4), 3);
        Due.due("told(5): those that are out do not count", r.told(5), 1);
        r.restart();
        Due.due("told(3) of gone ones", r.told(3), 0);
        Due.due("told(4) of gone ones", r.told(4), 0);
        Due.due("told(5) of gone ones", r.told(5), 0);
    }

    private static void told345(Run r, int waiting, int working, int settled) {
        Due.due("told(3)", r.told(3), waiting);
        Due.due("told(4)", r.told(4), working);
        Due.due("told(5)", r.told(5), settled);
        Due.due("save(), which counts all of them", r.save(), waiting + working + settled);
    }

    private static void oneThatIsSettledByAKeptAnswer() {
        Run r = new Run(2, 1);
        r.keep(1, 5);
        r.rows(2, 1);
        Due.dueAll("states", r.states(), "3 1 2");
        told345(r, 0, 1, 1);
        r.answer(1);
        Due.dueAll("states", r.states(), "3 3 3");
        told345(r, 0, 0, 0);
        r.rows(1);
        Due.dueAll("states", r.states(), "3 3 3 3");
        told345(r, 0, 0, 0);
    }

    private static void thoseThatAreSettledOtherwise() {
        Run r = Run.with(4, 1, 1, 2, 3, 4, 5);
        r.set(5, 2);
        r.set(1, 1);
        r.fail(2, 1);
        told345(r, 0, 4, 1);
        r.fail(1, 2);
        told345(r, 0, 3, 2);
        r.tick(10);
        Due.dueAll("results", r.results(), "3 4 2 3 3");
        told345(r, 0, 0, 0);
    }

    private static void asSavedBehindARestart() {
        Run r = Run.with(2, 1, 1, 2, 3, 4);
        r.answer(1);
        told345(r, 1, 2, 1);
        r.rows(5, 6);
        r.answer(0);
        Due.due("told(3)", r.told(3), 2);
        Due.due("told(5)", r.told(5), 0);
        r.restart();
        told345(r, 1, 2, 1);
    }

    private static void queue() {
        Run r = new Run(16, 1);
        r.set(2, 1);
        r.manyRows(17);
        Due.due("told(6)", r.told(6), 15);
        r.tick(1);
        Due.due("told(6)", r.told(6), 14);
        r.set(2, 20);
        Due.due("told(6)", r.told(6), 0);
    }

    private static void underWay() {
        Run r = Run.with(3, 1, 1, 2, 3);
        Due.due("told(7)", r.told(7), 3);
        Due.due("told(8)", r.told(8), 0);
        r.serve(0);
        Due.due("told(7)", r.told(7), 2);
        Due.due("told(8)", r.told(8), 1);
        Run full = Refused.fullLines();
        Due.due("told(7) of full lines", full.told(7), 100);
        Due.due("told(8) of full lines", full.told(8), 100);
    }

    private static void kept() {
        Run r = new Run(1, 0);
        for (int key = 1; key <= 8; key++) {
            r.keep(key, 5);
            Due.due("told(9)", r.told(9), key);
        }
        r.keep(9, 5);
        Due.due("told(9): 8 at most", r.told(9), 8);
        r.tick(100);
        Due.due("told(9) when their ENDS are below NOW", r.told(9), 8);
        r.restart();
        Due.due("told(9) behind a restart", r.told(9), 0);
    }

    private static void sentInAll() {
        Run r = Run.with(3, 1, 1, 2);
        Due.due("told(10)", r.told(10), 2);
        r.lose(0, 0);
        Due.due("told(10) when one got lost", r.told(10), 2);
        r.fill(0, 100);
        Due.due("told(10): what comes twice is not sent", r.told(10), 2);
        r.rows(3);
        Due.due("told(7)", r.told(7), 100);
        Due.due("told(10) when the line was full", r.told(10), 3);
        r.tick(10);
        Due.due("told(10) when all were tried again", r.told(10), 6);
        r.restart();
        Due.due("told(10) behind a restart", r.told(10), 6);
    }

    private static void sentInThisTick() {
        Run r = Run.with(3, 1, 1, 2, 3);
        Due.due("told(11)", r.told(11), 3);
        r.lose(0, 0);
        Due.due("told(11) when one got lost", r.told(11), 3);
        r.tick(0);
        Due.due("told(11) behind tick(0)", r.told(11), 3);
        r.tick(1);
        Due.due("told(11) in the next TICK", r.told(11), 0);
        r.tick(9);
        Due.due("told(11) when all are tried again", r.told(11), 3);
        r.save();
        r.restart();
        Due.due("told(11): a restart is in the same TICK", r.told(11), 6);
    }

    private static void restarts() {
        Run r = new Run(1, 1);
        Due.due("told(12) at first", r.told(12), 0);
        for (int i = 1; i <= 400; i++) {
            r.restart();
        }
        Due.due("told(12)", r.told(12), 400);
        r.save();
        Due.due("told(12) behind save()", r.told(12), 400);
    }

    private static void belowZero() {
        int[] wrong = {-1, -2, -12, Integer.MIN_VALUE};
        for (int what : wrong) {
            Refused.none("told(" + what + ")", Refused::busy, r -> r.told(what));
        }
    }

    private static void aboveTwelve() {
        int[] wrong = {13, 14, 100, Integer.MAX_VALUE};
        for (int what : wrong) {
            Refused.none("told(" + what + ")", Refused::busy, r -> r.told(what));
        }
    }
}
