/** Terms: GOING ON. */
public final class TermsGoingOnTest {
    private static final String HERE = "Terms";

    public static void main(String[] args) {
        all();
        Due.end();
    }

    static void all() {
        String behind = "GOING ON, behind each call that changes something (in tick() behind each TICK):";
        Sentences.test(HERE, behind, TermsGoingOnTest::behindRowAndMark);
        Sentences.test(HERE, behind, TermsGoingOnTest::behindSet);
        Sentences.test(HERE, behind, TermsGoingOnTest::behindArrive);
        Sentences.test(HERE, behind, TermsGoingOnTest::behindEachTick);
        starting();
        sending();
        goingOut();
    }

    private static void starting() {
        String least = "first, while less than MOST ROWS are WORKING and one is WAITING: "
            + "the WAITING one with the least number:";
        Sentences.test(HERE, least, TermsGoingOnTest::mostRowsWorkAndNotMore);
        Sentences.test(HERE, least, TermsGoingOnTest::theLeastNumberIsNext);
        Sentences.test(HERE, least, TermsGoingOnTest::severalPlacesAreTakenAtOnce);
        Sentences.test(HERE, least, TermsGoingOnTest::withoutAPlaceWhatIsKeptDoesNotHelp);
        String kept = "if an answer for its KEY is KEPT whose END is not below NOW, it is SETTLED by that (RESULT 1),";
        Sentences.test(HERE, kept, TermsGoingOnTest::theEndIsAboveNow);
        Sentences.test(HERE, kept, TermsGoingOnTest::theEndIsNow);
        Sentences.test(HERE, kept, TermsGoingOnTest::theEndIsBelowNow);
        Sentences.test(HERE, kept, TermsGoingOnTest::anotherKeyIsNotHelped);
        Sentences.test(HERE, kept, TermsGoingOnTest::itTakesNoPlace);
        Sentences.test(HERE, kept, TermsGoingOnTest::itIsNotKeptLongerByThat);
        String works = "else it is WORKING, with 1 TRY, and in THE QUEUE behind the others.";
        Sentences.test(HERE, works, TermsGoingOnTest::itWorksWithOneTry);
        Sentences.test(HERE, works, TermsGoingOnTest::behindTheOthersInTheQueue);
    }

    private static void sending() {
        String sent = "Then, while less than RATE asks were sent in this TICK and one is in THE QUEUE: "
            + "the first one is sent, and is DUE at NOW and WAIT.";
        Sentences.test(HERE, sent, TermsGoingOnTest::rateAreSentAndNotMore);
        Sentences.test(HERE, sent, TermsGoingOnTest::whatAnswersMakeRoomForCountsInTheTick);
        Sentences.test(HERE, sent, TermsGoingOnTest::theFirstInTheQueueIsSentFirst);
        Sentences.test(HERE, sent, TermsGoingOnTest::dueFromTheTickOfItsSending);
    }

    private static void goingOut() {
        Sentences.test(HERE, "Then ITEMS go OUT, again and again the one with the least number that can:",
            TermsGoingOnTest::theLeastNumberGoesFirst);
        String ordered = "ORDERED: a SETTLED one, when all ahead of it (with lesser numbers) are OUT;";
        Sentences.test(HERE, ordered, TermsGoingOnTest::inOrderOneIsHeldByAllAhead);
        Sentences.test(HERE, ordered, TermsGoingOnTest::inOrderMarksAreHeldToo);
        Sentences.test(HERE, ordered, TermsGoingOnTest::inOrderTheFirstIsNeverHeld);
        String else1 = "else a SETTLED ROW, when all MARKS ahead of it are OUT, a MARK, when all ITEMS ahead of it are OUT.";
        Sentences.test(HERE, else1, TermsGoingOnTest::aRowGoesAcrossRows);
        Sentences.test(HERE, else1, TermsGoingOnTest::aRowDoesNotGoAcrossAMark);
        Sentences.test(HERE, else1, TermsGoingOnTest::aRowAheadOfAMarkIsNotHeldByIt);
        Sentences.test(HERE, else1, TermsGoingOnTest::aMarkWaitsForAllAhead);
        Sentences.test(HERE, else1, TermsGoingOnTest::marksBehindMarks);
        Sentences.test(HERE, "(GONE ones count as OUT.)", TermsGoingOnTest::goneRowsHoldNothing);
        Sentences.test(HERE, "(GONE ones count as OUT.)", TermsGoingOnTest::goneMarksHoldNothing);
    }

    private static void behindRowAndMark() {
        Run r = new Run(1, 1);
        r.row(1, 1);
        Due.due("item(0, 0)", r.item(0, 0), 1);
        Due.due("told(7)", r.told(7), 1);
        Run s = new Run(1, 1);
        s.mark();
        Due.due("item(0, 0)", s.item(0, 0), 3);
    }

    private static void behindSet() {
        Run r = new Run(3, 1);
        r.set(2, 1);
        r.rows(1, 2, 3);
        Due.dueAll("asks", r.asks(), "0");
        r.set(2, 2);
        Due.dueAll("asks", r.asks(), "0 1");
    }

    private static void behindArrive() {
        Run r = Run.with(1, 1, 1, 2);
        r.serve(0);
        Due.dueAll("states", r.states(), "1 0");
        r.arrive(0);
        Due.dueAll("states", r.states(), "3 1");
        Due.dueAll("asks", r.asks(), "1");
    }

    /** In each TICK one row is in vain, goes out, and the next one is asked for. */
    private static void behindEachTick() {
        Run r = new Run(1, 1);
        r.set(0, 2);
        r.set(1, 1);
        r.rows(1, 2, 3, 4);
        Due.due("tick(7)", r.tick(7), 7);
        Due.dueAll("outs", r.outs(), "0 1 2");
        Due.dueAll("ticks", r.outTicks(), "2 4 6");
        Due.dueAll("asks", r.asks(), "0 1 2 3");
        Run s = new Run(4, 1);
        s.set(2, 1);
        s.rows(1, 2, 3, 4);
        s.tick(2);
        Due.dueAll("asks: one in each TICK", s.asks(), "0 1 2");
    }

    private static void mostRowsWorkAndNotMore() {
        for (int most = 1; most <= 16; most++) {
            Run r = new Run(most, 1);
            r.manyRows(most);
            Due.due("told(4)", r.told(4), most);
            Due.due("told(3)", r.told(3), 0);
            r.row(77, 0);
            Due.due("told(4)", r.told(4), most);
            Due.due("told(3)", r.told(3), 1);
        }
    }

    private static void theLeastNumberIsNext() {
        Run r = Run.with(2, 0, 1, 2, 3, 4, 5);
        Due.dueAll("states", r.states(), "1 1 0 0 0");
        r.answer(1);
        Due.dueAll("states", r.states(), "1 3 1 0 0");
        r.answer(0);
        Due.dueAll("states", r.states(), "3 3 1 1 0");
    }

    private static void severalPlacesAreTakenAtOnce() {
        Run r = new Run(3, 0);
        r.set(1, 1);
        r.manyRows(8);
        r.tick(10);
        Due.dueAll("states", r.states(), "3 3 3 1 1 1 0 0");
        Due.dueAll("asks", r.asks(), "0 1 2 3 4 5");
    }

    private static void withoutAPlaceWhatIsKeptDoesNotHelp() {
        Run r = new Run(1, 0);
        r.keep(7, 50);
        r.rows(8, 7, 7);
        Due.dueAll("states", r.states(), "3 1 0 0");
        r.answer(1);
        Due.dueAll("states", r.states(), "3 3 3 3");
        Due.dueAll("results", r.results(), "0 0 1 1");
    }

    /** An answer to key 7, whose row had the value 700, is kept until 4. */
    private static Run keptUntil4() {
        Run r = new Run(1, 0);
        r.set(3, 4);
        r.rows(7);
        r.answer(0);
        return r;
    }

    private static void isSettledByIt(Run r, int row) {
        Due.due("item(" + row + ", 0)", r.item(row, 0), 3);
        Due.due("item(" + row + ", 1)", r.item(row, 1), 1);
        Due.due("value(" + row + ")", r.value(row), 701);
        Due.due("told(7)", r.told(7), 0);
        Due.due("told(10)", r.told(10), 1);
    }

    private static void theEndIsAboveNow() {
        Run r = keptUntil4();
        Due.due("tick(3)", r.tick(3), 3);
        r.row(7, 5);
        isSettledByIt(r, 1);
    }

    private static void theEndIsNow() {
        Run r = keptUntil4();
        Due.due("tick(4)", r.tick(4), 4);
        r.row(7, 5);
        isSettledByIt(r, 1);
    }

    private static void theEndIsBelowNow() {
        Run r = keptUntil4();
        Due.due("tick(5)", r.tick(5), 5);
        r.row(7, 5);
        Due.due("item(1, 0)", r.item(1, 0), 1);
        Due.due("item(1, 1)", r.item(1, 1), -1);
        Due.due("told(7)", r.told(7), 1);
    }

    private static void anotherKeyIsNotHelped() {
        Run r = keptUntil4();
        r.row(8, 5);
        Due.due("item(1, 0)", r.item(1, 0), 1);
        Due.due("told(7)", r.told(7), 1);
    }

    private static void itTakesNoPlace() {
        Run r = keptUntil4();
        r.rows(7, 7, 8);
        Due.dueAll("states", r.states(), "3 3 3 1");
        Due.dueAll("tries", r.tries(), "1 0 0 1");
    }

    private static void itIsNotKeptLongerByThat() {
        Run r = keptUntil4();
        r.tick(2);
        r.row(7, 5);
        Due.due("kept(7)", r.kept(7), 4);
    }

    private static void itWorksWithOneTry() {
        Run r = Run.with(1, 1, 1, 2);
        Due.dueAll("states", r.states(), "1 0");
        Due.dueAll("tries", r.tries(), "1 0");
    }

    /** Row 0 is tried again while row 1 is in the queue, and then row 2 comes: they are asked for in this order. */
    private static void behindTheOthersInTheQueue() {
        Run r = new Run(3, 1);
        r.set(4, 1);
        r.set(2, 1);
        r.rows(1, 2);
        r.fail(0, 1);
        r.rows(3);
        Due.dueAll("queued", r.queued(), "1 1 1");
        r.tick(3);
        Due.dueAll("asks", r.asks(), "1 0 2");
    }

    private static void rateAreSentAndNotMore() {
        for (int rate = 1; rate <= 15; rate++) {
            Run r = new Run(16, 1);
            r.set(2, rate);
            r.manyRows(rate);
            Due.due("told(7)", r.told(7), rate);
            Due.due("told(6)", r.told(6), 0);
            r.row(77, 0);
            Due.due("told(7)", r.told(7), rate);
            Due.due("told(6)", r.told(6), 1);
        }
    }

    private static void whatAnswersMakeRoomForCountsInTheTick() {
        Run r = new Run(1, 1);
        r.set(2, 2);
        r.rows(1, 2, 3);
        r.answer(0);
        Due.due("told(11)", r.told(11), 2);
        r.answer(1);
        Due.due("told(11)", r.told(11), 2);
        Due.dueAll("queued", r.queued(), "0 0 1");
        r.tick(1);
        Due.dueAll("queued", r.queued(), "0 0 0");
        Due.due("told(11)", r.told(11), 1);
    }

    private static void theFirstInTheQueueIsSentFirst() {
        Run r = new Run(5, 1);
        r.set(2, 1);
        r.rows(1, 2, 3, 4, 5);
        r.tick(1);
        Due.dueAll("asks", r.asks(), "0 1");
        r.tick(1);
        Due.dueAll("asks", r.asks(), "0 1 2");
        r.set(2, 20);
        Due.dueAll("asks", r.asks(), "0 1 2 3 4");
    }

    private static void dueFromTheTickOfItsSending() {
        Run r = new Run(2, 1);
        r.set(0, 5);
        r.set(2, 1);
        r.rows(1, 2);
        r.tick(1);
        r.set(2, 20);
        r.tick(4);
        Due.dueAll("tries at 5: row 0 was sent at 0", r.tries(), "2 1");
        r.tick(1);
        Due.dueAll("tries at 6: row 1 was sent at 1", r.tries(), "2 2");
    }

    private static void theLeastNumberGoesFirst() {
        Run r = new Run(5, 0);
        r.rows(1);
        r.mark();
        r.rows(2, 3, 4);
        r.answer(4);
        r.answer(2);
        r.answer(3);
        Due.dueAll("outs", r.outs(), "");
        r.answer(0);
        Due.dueAll("outs", r.outs(), "0 1 2 3 4");
    }

    private static void inOrderOneIsHeldByAllAhead() {
        Run r = Run.with(4, 1, 1, 2, 3, 4);
        r.answer(3);
        r.answer(1);
        Due.dueAll("outs", r.outs(), "");
        r.answer(0);
        Due.dueAll("outs: row 2 holds row 3", r.outs(), "0 1");
        Due.due("item(3, 0)", r.item(3, 0), 2);
        r.answer(2);
        Due.dueAll("outs", r.outs(), "0 1 2 3");
    }

    private static void inOrderMarksAreHeldToo() {
        Run r = Run.with(2, 1, 1);
        r.mark();
        r.rows(2);
        r.answer(2);
        Due.dueAll("states", r.states(), "1 2 2");
        r.answer(0);
        Due.dueAll("outs", r.outs(), "0 1 2");
    }

    private static void inOrderTheFirstIsNeverHeld() {
        Run r = Run.with(3, 1, 1, 2, 3);
        r.answer(0);
        Due.dueAll("outs", r.outs(), "0");
        Run s = new Run(1, 1);
        s.mark();
        Due.dueAll("outs", s.outs(), "0");
    }

    private static void aRowGoesAcrossRows() {
        Run r = Run.with(2, 0, 1, 2, 3);
        r.answer(1);
        Due.dueAll("outs: ahead of one that works", r.outs(), "1");
        r.answer(2);
        Due.dueAll("outs", r.outs(), "1 2");
    }

    private static void aRowDoesNotGoAcrossAMark() {
        Run r = Run.with(4, 0, 1, 2);
        r.mark();
        r.rows(3, 4);
        r.answer(4);
        r.answer(1);
        Due.dueAll("outs", r.outs(), "1");
        Due.due("item(4, 0)", r.item(4, 0), 2);
        r.answer(0);
        Due.dueAll("outs", r.outs(), "1 0 2 4");
        r.answer(3);
        Due.dueAll("outs", r.outs(), "1 0 2 4 3");
    }

    private static void aRowAheadOfAMarkIsNotHeldByIt() {
        Run r = Run.with(2, 0, 1, 2);
        r.mark();
        r.answer(1);
        Due.dueAll("outs", r.outs(), "1");
        Due.dueAll("states", r.states(), "1 3 2");
    }

    private static void aMarkWaitsForAllAhead() {
        Run r = Run.with(1, 0, 1, 2, 3);
        r.mark();
        r.answer(0);
        Due.dueAll("states: one works, one waits", r.states(), "3 1 0 2");
        r.answer(1);
        Due.dueAll("states: one works", r.states(), "3 3 1 2");
        r.answer(2);
        Due.dueAll("states", r.states(), "3 3 3 3");
        Due.dueAll("outs", r.outs(), "0 1 2 3");
    }

    /** Row 3 waits for both marks, and the second mark for the row between them. */
    private static void marksBehindMarks() {
        Run r = new Run(4, 0);
        r.mark();
        r.rows(1);
        r.mark();
        r.rows(2);
        r.mark();
        Due.dueAll("outs", r.outs(), "0");
        r.answer(3);
        Due.dueAll("outs", r.outs(), "0");
        r.answer(1);
        Due.dueAll("outs", r.outs(), "0 1 2 3 4");
    }

    private static void goneRowsHoldNothing() {
        for (int order = 0; order <= 1; order++) {
            Run r = Run.with(2, order, 1, 2, 3);
            r.restart();
            Due.due("mark", r.mark(), 3);
            Due.dueAll("outs", r.outs(), "3");
            r.rows(5);
            r.answer(4);
            Due.dueAll("outs", r.outs(), "3 4");
        }
    }

    private static void goneMarksHoldNothing() {
        for (int order = 0; order <= 1; order++) {
            Run r = Run.with(2, order, 1);
            r.mark();
            Due.due("item(1, 0)", r.item(1, 0), 2);
            r.restart();
            r.rows(5);
            r.answer(2);
            Due.dueAll("outs", r.outs(), "2");
        }
    }
}
