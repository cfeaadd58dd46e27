/** Terms: SAVING and RESTARTING. */
public final class TermsSavingTest {
    private static final String HERE = "Terms";

    public static void main(String[] args) {
        all();
        Due.end();
    }

    static void all() {
        String saving = "SAVING keeps what ITEMS are and how many went OUT (at first: no ITEMS).";
        Sentences.test(HERE, saving, TermsSavingTest::atFirstNoItemsAreSaved);
        Sentences.test(HERE, saving, TermsSavingTest::theLatestSaveCounts);
        Sentences.test(HERE, saving, TermsSavingTest::howManyWentOutIsKept);
        String back = "RESTARTING: what went OUT later is taken back;";
        Sentences.test(HERE, back, TermsSavingTest::whatWentOutLaterIsTakenBack);
        Sentences.test(HERE, back, TermsSavingTest::whatWentOutBeforeStays);
        Sentences.test(HERE, back, TermsSavingTest::othersGoOutInItsPlace);
        String gone = "ITEMS that came later are GONE (for ever);";
        Sentences.test(HERE, gone, TermsSavingTest::itemsThatCameLaterAreGone);
        Sentences.test(HERE, gone, TermsSavingTest::goneForEver);
        String asSaved = "the others are as saved, but WORKING ones have one TRY more than then, "
            + "and are in THE QUEUE, by numbers, alone;";
        Sentences.test(HERE, asSaved, TermsSavingTest::waitingOnesWaitAgain);
        Sentences.test(HERE, asSaved, TermsSavingTest::settledOnesAreSettledAgain);
        Sentences.test(HERE, asSaved, TermsSavingTest::workingOnesHaveOneTryMoreThanThen);
        Sentences.test(HERE, asSaved, TermsSavingTest::notOneMoreWithEachRestart);
        Sentences.test(HERE, asSaved, TermsSavingTest::alsoWithMoreThanTries);
        Sentences.test(HERE, asSaved, TermsSavingTest::theyAreInTheQueueByNumbers);
        Sentences.test(HERE, asSaved, TermsSavingTest::theyAreInTheQueueAlone);
        Sentences.test(HERE, "nothing is KEPT.", TermsSavingTest::nothingIsKept);
        stays();
    }

    private static void stays() {
        String stay = "NOW, the LINES, the service, SETTINGS and what is saved stay.";
        Sentences.test(HERE, stay, TermsSavingTest::nowStays);
        Sentences.test(HERE, stay, TermsSavingTest::theLinesStay);
        Sentences.test(HERE, stay, TermsSavingTest::theServiceStays);
        Sentences.test(HERE, stay, TermsSavingTest::settingsStay);
        Sentences.test(HERE, stay, TermsSavingTest::whatIsSavedStays);
        Sentences.test(HERE, stay, TermsSavingTest::whatWasSentInThisTickStays);
    }

    private static void atFirstNoItemsAreSaved() {
        Run r = Run.with(2, 0, 1, 2, 3);
        r.answer(0);
        Due.due("restart()", r.restart(), 0);
        Due.dueAll("states", r.states(), "4 4 4");
        Due.due("told(2)", r.told(2), 0);
        Due.due("told(1)", r.told(1), 3);
    }

    private static void theLatestSaveCounts() {
        Run r = Run.with(2, 0, 1, 2);
        r.save();
        r.answer(0);
        r.save();
        r.answer(1);
        Due.due("restart()", r.restart(), 1);
        Due.dueAll("states", r.states(), "3 1");
    }

    private static void howManyWentOutIsKept() {
        Run r = Run.with(3, 0, 1, 2, 3);
        r.answer(2);
        r.answer(0);
        r.save();
        r.answer(1);
        Due.due("told(2)", r.told(2), 3);
        r.restart();
        Due.due("told(2)", r.told(2), 2);
        Due.dueAll("outs", r.outs(), "2 0");
    }

    private static void whatWentOutLaterIsTakenBack() {
        Run r = Run.with(3, 0, 1, 2, 3);
        r.save();
        r.answer(0);
        r.fail(1, 1);
        Due.dueAll("outs", r.outs(), "0 1");
        Due.due("restart()", r.restart(), 3);
        Due.dueAll("outs", r.outs(), "");
        Due.due("out(0, 0)", r.out(0, 0), -1);
        Due.dueAll("states", r.states(), "1 1 1");
        Due.dueAll("results", r.results(), "-1 -1 -1");
        Due.dueAll("values", r.values(), "0 0 0");
    }

    private static void whatWentOutBeforeStays() {
        Run r = Run.with(2, 0, 1, 2);
        r.tick(2);
        r.answer(1);
        r.tick(1);
        r.save();
        r.tick(5);
        r.restart();
        Due.dueAll("outs", r.outs(), "1");
        Due.dueAll("ticks", r.outTicks(), "2");
        Due.dueAll("results", r.outResults(), "0");
        Due.dueAll("values", r.values(), "0 201");
    }

    private static void othersGoOutInItsPlace() {
        Run r = Run.with(3, 0, 1, 2, 3);
        r.answer(1);
        r.save();
        r.tick(3);
        r.answer(0);
        r.restart();
        r.tick(1);
        r.answer(2);
        Due.dueAll("outs", r.outs(), "1 2");
        Due.dueAll("ticks", r.outTicks(), "0 4");
    }

    private static void itemsThatCameLaterAreGone() {
        Run r = Run.with(2, 1, 1);
        r.save();
        r.rows(2, 3);
        r.mark();
        r.answer(1);
        r.restart();
        Due.dueAll("states", r.states(), "1 4 4 4");
        Due.dueAll("results", r.results(), "-1 -1 -1 -1");
        Due.dueAll("tries", r.tries(), "2 0 0 0");
        Due.dueAll("values", r.values(), "0 0 0 0");
        Due.dueAll("queued", r.queued(), "0 0 0 0");
        Due.dueAll("marks", r.marks(), "0 0 0 1");
        Due.due("told(1)", r.told(1), 4);
    }

    private static void goneForEver() {
        Run r = Run.with(2, 1, 1);
        r.save();
        r.rows(2);
        r.mark();
        r.restart();
        Due.due("save()", r.save(), 1);
        Due.due("row", r.row(3, 300), 3);
        Due.due("save()", r.save(), 2);
        r.restart();
        Due.dueAll("states", r.states(), "1 4 4 1");
        r.answer(3);
        r.answer(0);
        Due.dueAll("outs", r.outs(), "0 3");
        r.tick(100);
        r.restart();
        Due.dueAll("states", r.states(), "1 4 4 1");
    }

    private static void waitingOnesWaitAgain() {
        Run r = Run.with(1, 0, 1, 2, 3);
        r.save();
        r.answer(0);
        r.answer(1);
        Due.dueAll("states", r.states(), "3 3 1");
        Due.due("restart()", r.restart(), 1);
        Due.dueAll("states", r.states(), "1 0 0");
        Due.dueAll("tries", r.tries(), "2 0 0");
        Due.due("told(3)", r.told(3), 2);
    }

    private static void settledOnesAreSettledAgain() {
        Run r = Run.with(3, 1, 1, 2, 3);
        r.mark();
        r.answer(1);
        r.fail(2, 2);
        r.save();
        r.answer(0);
        Due.due("told(2)", r.told(2), 4);
        Due.due("restart()", r.restart(), 1);
        Due.dueAll("states", r.states(), "1 2 2 2");
        Due.dueAll("results", r.results(), "-1 0 2 5");
        Due.dueAll("values", r.values(), "0 201 2 0");
        Due.dueAll("tries", r.tries(), "2 1 1 0");
        r.tick(2);
        r.answer(0);
        Due.dueAll("outs", r.outs(), "0 1 2 3");
        Due.dueAll("ticks", r.outTicks(), "2 2 2 2");
    }

    private static void workingOnesHaveOneTryMoreThanThen() {
        Run r = new Run(2, 0);
        r.set(1, 5);
        r.rows(1);
        r.tick(10);
        r.rows(2);
        Due.dueAll("tries", r.tries(), "2 1");
        r.save();
        r.tick(20);
        Due.dueAll("tries later", r.tries(), "4 3");
        r.restart();
        Due.dueAll("tries: one more than then", r.tries(), "3 2");
    }

    private static void notOneMoreWithEachRestart() {
        Run r = Run.with(2, 0, 1, 2);
        r.save();
        for (int i = 0; i < 3; i++) {
            Due.due("restart()", r.restart(), 2);
            Due.dueAll("tries", r.tries(), "2 2");
        }
        r.save();
        r.restart();
        Due.dueAll("tries: of a later save", r.tries(), "3 3");
    }

    private static void alsoWithMoreThanTries() {
        Run r = Run.with(1, 0, 1);
        r.set(1, 1);
        r.save();
        r.restart();
        Due.due("item(0, 2)", r.item(0, 2), 2);
        Due.dueAll("asks: it is asked for all the same", r.asks(), "0 0");
        r.tick(9);
        Due.due("item(0, 0)", r.item(0, 0), 1);
        r.tick(1);
        Due.due("item(0, 1)", r.item(0, 1), 3);
        Due.due("item(0, 2)", r.item(0, 2), 2);
    }

    /** When it was saved, row 0 was in the queue behind row 2. */
    private static void theyAreInTheQueueByNumbers() {
        Run r = new Run(3, 0);
        r.set(1, 5);
        r.set(4, 1);
        r.set(2, 1);
        r.rows(1, 2, 3);
        r.fail(0, 1);
        Due.dueAll("queued", r.queued(), "1 1 1");
        r.save();
        r.restart();
        Due.dueAll("queued", r.queued(), "1 1 1");
        r.tick(3);
        Due.dueAll("asks", r.asks(), "0 1 2");
    }

    /** Rows that came later, and one that had been settled when it was saved, leave the queue. */
    private static void theyAreInTheQueueAlone() {
        Run r = new Run(4, 1);
        r.set(2, 1);
        r.rows(1, 2);
        r.save();
        r.rows(3, 4);
        Due.due("told(6)", r.told(6), 3);
        Due.due("restart()", r.restart(), 2);
        Due.dueAll("queued: the ask of this TICK was sent", r.queued(), "1 1 0 0");
        Due.due("told(6)", r.told(6), 2);
        r.tick(3);
        Due.dueAll("asks", r.asks(), "0 0 1");
        Due.due("told(6)", r.told(6), 0);
    }

    private static void nothingIsKept() {
        Run r = new Run(2, 0);
        r.keep(1, 50);
        r.keep(2, 50);
        r.save();
        Due.due("told(9)", r.told(9), 2);
        r.restart();
        Due.due("told(9)", r.told(9), 0);
        Due.dueAll("ends", r.ends(1, 2), "-1 -1");
        r.row(1, 5);
        Due.due("item(2, 0)", r.item(2, 0), 1);
        for (int key = 11; key <= 18; key++) {
            r.keep(key, 50);
        }
        Due.due("told(9): eight have room again", r.told(9), 8);
        Due.dueAll("ends", r.ends(11, 18), "50 50");
    }

    private static void nowStays() {
        Run r = Run.with(1, 1, 1);
        r.tick(3);
        r.save();
        r.tick(4);
        r.restart();
        Due.due("told(0)", r.told(0), 7);
        r.tick(9);
        Due.due("item(0, 2): sent again at 7", r.item(0, 2), 2);
        r.tick(1);
        Due.due("item(0, 1)", r.item(0, 1), 3);
    }

    private static void theLinesStay() {
        Run r = Run.with(4, 1, 1, 2, 3, 4);
        r.serve(1);
        r.refuse(1, 3);
        r.restart();
        Due.dueAll("asks", r.asks(), "0 3");
        Due.dueAll("answers", r.answers(), "1 2");
        Run s = Run.with(2, 1, 1, 2);
        s.serve(1);
        s.save();
        s.restart();
        Due.dueAll("asks: those, and those that are sent again", s.asks(), "0 0 1");
        Due.due("arrive(0)", s.arrive(0), 1);
        Due.due("value(1)", s.value(1), 201);
    }

    private static void theServiceStays() {
        Run r = Run.with(1, 1, 1);
        r.save();
        r.answer(0);
        r.restart();
        Due.due("count(1)", r.count(1), 1);
        Due.due("serve(0): it knows the number", r.serve(0), 0);
        Due.due("arrive(0)", r.arrive(0), 1);
        Due.due("value(0)", r.value(0), 101);
        Due.due("count(1)", r.count(1), 1);
    }

    private static void settingsStay() {
        int[] values = {50, 3, 7, 60, 1, 2, 1, 0};
        Run r = new Run(1, 0);
        r.save();
        for (int what = 0; what < 8; what++) {
            r.set(what, values[what]);
        }
        r.restart();
        for (int what = 0; what < 8; what++) {
            Due.due("set(" + what + ", 1)", r.set(what, 1), values[what]);
        }
    }

    private static void whatIsSavedStays() {
        Run r = Run.with(2, 0, 1, 2);
        r.save();
        for (int i = 1; i <= 3; i++) {
            Due.due("restart()", r.restart(), 2);
            Due.due("item(0, 0)", r.item(0, 0), 1);
            Due.due("item(1, 0)", r.item(1, 0), 1);
            r.rows(9);
            r.answer(0);
            r.answer(1);
            r.tick(1);
        }
        Due.dueAll("states", r.states(), "3 3 4 4 1");
        Due.due("restart()", r.restart(), 2);
        Due.dueAll("states", r.states(), "1 1 4 4 4");
    }

    private static void whatWasSentInThisTickStays() {
        Run r = new Run(2, 1);
        r.set(2, 3);
        r.rows(1, 2);
        r.save();
        r.restart();
        Due.due("told(11)", r.told(11), 3);
        Due.due("told(10)", r.told(10), 3);
        Due.due("told(6)", r.told(6), 1);
    }
}
