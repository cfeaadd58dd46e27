/** Promise 18: restart. What RESTARTING does stands in the terms. */
public final class Promise18RestartTest {
    private static final String HERE = "Promise 18";

    public static void main(String[] args) {
        all();
        Due.end();
    }

    static void all() {
        String restart = "RESTARTING: how many are WORKING (behind GOING ON).";
        Sentences.test(HERE, restart, Promise18RestartTest::noneOfANewObject);
        Sentences.test(HERE, restart, Promise18RestartTest::noneWhenNothingWasSaved);
        Sentences.test(HERE, restart, Promise18RestartTest::thoseThatWorkedWhenItWasSaved);
        Sentences.test(HERE, restart, Promise18RestartTest::sixteenAtMost);
        Sentences.test(HERE, restart, Promise18RestartTest::itGoesOn);
    }

    private static void noneOfANewObject() {
        Run r = new Run(1, 1);
        Due.due("restart()", r.restart(), 0);
        Due.due("told(12)", r.told(12), 1);
        Due.due("row", r.row(1, 1), 0);
        Due.due("restart()", r.restart(), 0);
        Due.due("told(12)", r.told(12), 2);
    }

    private static void noneWhenNothingWasSaved() {
        Run r = Run.with(2, 1, 1, 2, 3);
        r.mark();
        r.answer(0);
        Due.due("restart()", r.restart(), 0);
        Due.dueAll("states", r.states(), "4 4 4 4");
        Due.dueAll("told", r.allTold(), "0 4 0 0 0 0 0 2 0 0 3 3 1");
        r.tick(50);
        Due.dueAll("states when they would be due", r.states(), "4 4 4 4");
        Due.dueAll("told", r.allTold(), "50 4 0 0 0 0 0 2 0 0 3 0 1");
    }

    private static void thoseThatWorkedWhenItWasSaved() {
        Run r = Run.with(3, 1, 1, 2, 3);
        r.answer(1);
        r.save();
        r.answer(0);
        r.answer(2);
        Due.due("told(4)", r.told(4), 0);
        Due.due("restart()", r.restart(), 2);
        Due.due("told(4)", r.told(4), 2);
    }

    private static void sixteenAtMost() {
        Run r = new Run(16, 0);
        r.manyRows(20);
        r.save();
        Due.due("restart()", r.restart(), 16);
        Due.due("told(3)", r.told(3), 4);
        Due.due("told(6): 4 of 20 asks of this TICK were left", r.told(6), 12);
        r.tick(1);
        Due.due("told(6)", r.told(6), 0);
        for (int row = 15; row >= 0; row--) {
            Due.due("what arrives for " + row, r.answer(row), 1);
        }
        Due.due("told(2)", r.told(2), 16);
        Due.due("told(4)", r.told(4), 4);
    }

    private static void itGoesOn() {
        Run r = new Run(2, 1);
        r.set(2, 3);
        r.rows(1, 2);
        r.save();
        Due.due("restart()", r.restart(), 2);
        Due.dueAll("asks: one more could be sent in this TICK", r.asks(), "0 1 0");
        Due.due("told(11)", r.told(11), 3);
        Due.due("told(6)", r.told(6), 1);
    }
}
