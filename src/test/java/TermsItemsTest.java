/** Terms: ITEMS, ROWS, MARKS and RESULTS. */
public final class TermsItemsTest {
    private static final String HERE = "Terms";

    public static void main(String[] args) {
        all();
        Due.end();
    }

    static void all() {
        String items = "ITEMS are numbered as they come, 300 at most (those that are GONE count): "
            + "ROWS with a KEY and a VALUE, and MARKS.";
        Sentences.test(HERE, items, TermsItemsTest::numberedAsTheyCome);
        Sentences.test(HERE, items, TermsItemsTest::threeHundredAtMost);
        Sentences.test(HERE, items, TermsItemsTest::fullAlsoWhenAllAreOut);
        Sentences.test(HERE, items, TermsItemsTest::goneOnesCount);
        Sentences.test(HERE, items, TermsItemsTest::allMayBeGone);
        Sentences.test(HERE, "A ROW is WAITING, WORKING, SETTLED with a RESULT and a value, or OUT;",
            TermsItemsTest::aRowHasItsStates);
        Sentences.test(HERE, "a MARK is SETTLED at once (RESULT 5, value 0).", TermsItemsTest::aMarkIsSettledAtOnce);
        Sentences.test(HERE, "a MARK is SETTLED at once (RESULT 5, value 0).", TermsItemsTest::aMarkNeedsNoPlace);
        Sentences.test(HERE, "RESULTS of ROWS: 0 answered,", TermsItemsTest::answered);
        Sentences.test(HERE, "1 by an answer that was kept,", TermsItemsTest::byAnAnswerThatWasKept);
        Sentences.test(HERE, "2 failed (its value is the CAUSE),", TermsItemsTest::failed);
        Sentences.test(HERE, "3 in vain (0),", TermsItemsTest::inVain);
        Sentences.test(HERE, "4 by RULE 2 (0).", TermsItemsTest::byRule2);
    }

    private static void numberedAsTheyCome() {
        Run r = new Run(2, 1);
        Due.due("row", r.row(9, 1), 0);
        Due.due("mark", r.mark(), 1);
        Due.due("row", r.row(9, 1), 2);
        Due.due("row", r.row(3, 1), 3);
        Due.due("mark", r.mark(), 4);
    }

    private static void threeHundredAtMost() {
        Run r = new Run(16, 1);
        for (int i = 0; i < 300; i++) {
            Due.due("item " + i, i % 3 == 0 ? r.mark() : r.row(i, i), i);
        }
        String before = r.whole(1, 299);
        Due.due("row", r.row(1, 1), -4);
        Due.due("mark", r.mark(), -4);
        Due.dueAll("all behind FULL", r.whole(1, 299), before);
        r.answer(1);
        Due.due("told(2): 0, 1", r.told(2), 2);
    }

    private static void fullAlsoWhenAllAreOut() {
        Run r = new Run(1, 1);
        r.manyMarks(300);
        Due.due("told(2)", r.told(2), 300);
        Due.due("row", r.row(1, 1), -4);
        Due.due("mark", r.mark(), -4);
        Due.due("told(7)", r.told(7), 0);
    }

    private static void goneOnesCount() {
        Run r = new Run(16, 0);
        r.manyMarks(150);
        r.restart();
        Due.due("row", r.row(1, 1), 150);
        r.save();
        r.manyMarks(148);
        r.restart();
        Due.due("mark", r.mark(), 299);
        Due.due("row", r.row(1, 1), -4);
        Due.due("mark", r.mark(), -4);
        Due.due("told(1)", r.told(1), 300);
    }

    private static void allMayBeGone() {
        Run r = new Run(1, 1);
        r.manyRows(300);
        r.restart();
        Due.due("row", r.row(1, 1), -4);
        Due.due("mark", r.mark(), -4);
        Due.due("save()", r.save(), 0);
        Due.due("told(1)", r.told(1), 300);
        Due.due("item(299, 0)", r.item(299, 0), 4);
        Due.due("serve(0): its ask is under way yet", r.serve(0), 1);
        Due.due("arrive(0)", r.arrive(0), 0);
        Due.due("restart()", r.restart(), 0);
    }

    private static void aRowHasItsStates() {
        Run r = Run.with(1, 1, 1, 2);
        Due.due("item(1, 0) WAITING", r.item(1, 0), 0);
        Due.due("item(0, 0) WORKING", r.item(0, 0), 1);
        r.answer(0);
        Due.due("item(0, 0) OUT", r.item(0, 0), 3);
        Due.due("item(1, 0) WORKING", r.item(1, 0), 1);
        Run s = Run.with(2, 1, 1, 2);
        s.answer(1);
        Due.due("item(1, 0) SETTLED", s.item(1, 0), 2);
        Due.due("item(1, 1)", s.item(1, 1), 0);
        Due.due("value(1)", s.value(1), 201);
    }

    private static void aMarkIsSettledAtOnce() {
        Run r = Run.with(1, 1, 1);
        r.mark();
        Due.due("item(1, 0)", r.item(1, 0), 2);
        Due.due("item(1, 1)", r.item(1, 1), 5);
        Due.due("value(1)", r.value(1), 0);
        r.answer(0);
        Due.due("item(1, 0)", r.item(1, 0), 3);
        Due.due("item(1, 1)", r.item(1, 1), 5);
        Due.due("value(1)", r.value(1), 0);
    }

    private static void aMarkNeedsNoPlace() {
        Run r = Run.with(1, 0, 1, 2);
        r.mark();
        Due.due("told(3)", r.told(3), 1);
        Due.due("told(4)", r.told(4), 1);
        Due.due("told(5)", r.told(5), 1);
        Due.due("told(6)", r.told(6), 0);
        Due.due("told(7)", r.told(7), 1);
    }

    private static void is(Run r, int row, int result, long value) {
        Due.due("item(" + row + ", 0)", r.item(row, 0), 3);
        Due.due("item(" + row + ", 1)", r.item(row, 1), result);
        Due.due("value(" + row + ")", r.value(row), value);
    }

    private static void answered() {
        Run r = Run.with(1, 1, 1);
        r.answer(0);
        is(r, 0, 0, 101);
    }

    private static void byAnAnswerThatWasKept() {
        Run r = new Run(1, 1);
        r.set(3, 5);
        r.rows(1);
        r.answer(0);
        r.row(1, 999);
        is(r, 1, 1, 101);
        Due.due("count(1)", r.count(1), 1);
    }

    private static void failed() {
        for (int cause = 1; cause <= 3; cause++) {
            Run r = Run.with(1, 1, 1);
            r.fail(0, cause);
            is(r, 0, 2, cause);
        }
    }

    private static void inVain() {
        Run r = Run.with(1, 1, 1);
        r.tick(20);
        is(r, 0, 3, 0);
    }

    private static void byRule2() {
        Run r = Run.with(1, 1, 1);
        r.set(6, 2);
        r.fail(0, 3);
        is(r, 0, 4, 0);
    }
}
