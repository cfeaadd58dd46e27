/** Terms: THE SERVICE. */
public final class TermsServiceTest {
    private static final String HERE = "Terms";

    public static void main(String[] args) {
        all();
        Due.end();
    }

    static void all() {
        Sentences.test(HERE, "THE SERVICE has a COUNT of each KEY (0 at first).", TermsServiceTest::countIs0AtFirst);
        String knows = "An ask that comes to it: if it KNOWS numbers, and this one was answered before without a CAUSE, "
            + "it is answered as the latest time that it was so;";
        Sentences.test(HERE, knows, TermsServiceTest::answeredBeforeIsAnsweredTheSame);
        Sentences.test(HERE, knows, TermsServiceTest::answeredWithACauseIsNotAnswered);
        Sentences.test(HERE, knows, TermsServiceTest::theLatestTimeOfSeveral);
        Sentences.test(HERE, knows, TermsServiceTest::whatItKnewItKnowsAgain);
        Sentences.test(HERE, knows, TermsServiceTest::aCauseBetweenIsNoSuchTime);
        Sentences.test(HERE, knows, TermsServiceTest::anAnswerThatGotLostWasGiven);
        Sentences.test(HERE, knows, TermsServiceTest::anotherRowOfTheKeyIsAnotherNumber);
        Sentences.test(HERE, knows, TermsServiceTest::withoutNumbersItActsEachTime);
        String grows = "else COUNT of the ROW's KEY grows by 1, and the answer is the ROW's VALUE and that COUNT, "
            + "together (64 bits, going round).";
        Sentences.test(HERE, grows, TermsServiceTest::valueAndCountTogether);
        Sentences.test(HERE, grows, TermsServiceTest::theSumGoesRound);
        Sentences.test(HERE, grows, TermsServiceTest::theSumJustDoesNotGoRound);
        Sentences.test(HERE, grows, TermsServiceTest::negativeValues);
        Sentences.test(HERE, "(It knows those ROWS that are GONE, too.)", TermsServiceTest::goneRowsAreServed);
        Sentences.test(HERE, "(It knows those ROWS that are GONE, too.)", TermsServiceTest::goneRowsAreKnownByNumber);
    }

    private static void countIs0AtFirst() {
        Run r = Run.with(2, 1, 1, 2);
        Due.dueAll("counts", r.counts(0, 1, 2, -1, Long.MIN_VALUE, Long.MAX_VALUE), "0 0 0 0 0 0");
        r.refuse(0, 1);
        Due.due("count(1)", r.count(1), 0);
    }

    private static void answeredBeforeIsAnsweredTheSame() {
        Run r = Run.with(2, 0, 1, 1);
        r.twice(0, 0);
        r.serve(0);
        r.serve(0);
        Due.due("serve(0)", r.serve(0), 0);
        Due.due("count(1)", r.count(1), 2);
        Due.dueAll("answers", r.answers(), "0 1 0");
        Due.due("arrive(2)", r.arrive(2), 1);
        Due.due("value(0): with the COUNT of then", r.value(0), 101);
    }

    private static void answeredWithACauseIsNotAnswered() {
        Run r = Run.with(1, 0, 1);
        r.twice(0, 0);
        r.refuse(0, 2);
        Due.due("serve(0)", r.serve(0), 1);
        Due.due("count(1)", r.count(1), 1);
    }

    private static void theLatestTimeOfSeveral() {
        Run r = Run.with(1, 0, 1);
        r.set(7, 0);
        r.fill(0, 4);
        r.serve(0);
        r.serve(0);
        r.serve(0);
        r.set(7, 1);
        Due.due("serve(0)", r.serve(0), 0);
        Due.due("arrive(3)", r.arrive(3), 1);
        Due.due("value(0)", r.value(0), 103);
        Due.due("count(1)", r.count(1), 3);
    }

    private static void whatItKnewItKnowsAgain() {
        Run r = Run.with(1, 0, 1);
        r.twice(0, 0);
        r.serve(0);
        r.lose(1, 0);
        r.set(7, 0);
        r.set(7, 1);
        Due.due("serve(0)", r.serve(0), 0);
        Due.due("arrive(0)", r.arrive(0), 1);
        Due.due("value(0)", r.value(0), 101);
    }

    private static void aCauseBetweenIsNoSuchTime() {
        Run r = Run.with(1, 0, 1);
        r.fill(0, 3);
        r.serve(0);
        r.refuse(0, 2);
        Due.due("serve(0)", r.serve(0), 0);
        Due.due("arrive(2)", r.arrive(2), 1);
        Due.due("item(0, 1)", r.item(0, 1), 0);
        Due.due("value(0)", r.value(0), 101);
    }

    private static void anAnswerThatGotLostWasGiven() {
        Run r = Run.with(2, 0, 1, 2);
        r.serve(0);
        r.fill(1, 100);
        r.serve(0);
        Due.due("told(8): the second answer is lost", r.told(8), 100);
        r.tick(10);
        r.lose(1, 0);
        int again = r.place(0, 1);
        Due.due("serve of the row that was tried again", r.serve(again), 0);
        Due.due("under(1, 99)", r.under(1, 99), 1);
        Due.due("arrive(99)", r.arrive(99), 1);
        Due.due("value(1)", r.value(1), 201);
    }

    private static void anotherRowOfTheKeyIsAnotherNumber() {
        Run r = new Run(3, 0);
        r.row(1, 5);
        r.row(1, 5);
        r.row(1, 5);
        Due.due("serve(0)", r.serve(0), 1);
        Due.due("serve(0)", r.serve(0), 1);
        Due.due("serve(0)", r.serve(0), 1);
        Due.due("count(1)", r.count(1), 3);
    }

    private static void withoutNumbersItActsEachTime() {
        Run r = Run.with(1, 0, 1);
        r.serve(0);
        r.tick(10);
        r.set(7, 0);
        Due.due("serve(0)", r.serve(0), 1);
        Due.due("count(1)", r.count(1), 2);
        Due.due("arrive(1)", r.arrive(1), 1);
        Due.due("value(0)", r.value(0), 102);
    }

    private static void valueAndCountTogether() {
        Run r = new Run(3, 0);
        r.row(1, 10);
        r.row(2, 20);
        r.row(1, 30);
        r.answer(2);
        r.answer(1);
        r.answer(0);
        Due.dueAll("values", r.values(), "12 21 31");
    }

    private static void theSumGoesRound() {
        Run r = new Run(3, 0);
        r.row(1, Long.MAX_VALUE);
        r.row(1, Long.MAX_VALUE);
        r.row(1, Long.MAX_VALUE - 1);
        r.answer(0);
        r.answer(1);
        r.answer(2);
        Due.due("value(0)", r.value(0), Long.MIN_VALUE);
        Due.due("value(1)", r.value(1), Long.MIN_VALUE + 1);
        Due.due("value(2)", r.value(2), Long.MIN_VALUE + 1);
    }

    private static void theSumJustDoesNotGoRound() {
        Run r = new Run(1, 0);
        r.row(1, Long.MAX_VALUE - 1);
        r.row(1, Long.MAX_VALUE - 2);
        r.answer(0);
        r.answer(1);
        Due.due("value(0)", r.value(0), Long.MAX_VALUE);
        Due.due("value(1)", r.value(1), Long.MAX_VALUE);
    }

    private static void negativeValues() {
        Run r = new Run(3, 0);
        r.row(1, Long.MIN_VALUE);
        r.row(2, -1);
        r.row(3, -5);
        r.answer(0);
        r.answer(1);
        r.answer(2);
        Due.due("value(0)", r.value(0), Long.MIN_VALUE + 1);
        Due.due("value(1)", r.value(1), 0);
        Due.due("value(2)", r.value(2), -4);
    }

    private static void goneRowsAreServed() {
        Run r = Run.with(2, 1, 1, 2);
        r.restart();
        Due.dueAll("states", r.states(), "4 4");
        Due.due("serve(1) of a gone row", r.serve(1), 1);
        Due.dueAll("counts", r.counts(1, 2), "0 1");
        Due.dueAll("answers", r.answers(), "1");
        Due.due("arrive(0)", r.arrive(0), 0);
        r.row(2, 7);
        r.answer(2);
        Due.due("value(2): the gone one was counted", r.value(2), 9);
    }

    private static void goneRowsAreKnownByNumber() {
        Run r = Run.with(1, 1, 1);
        r.fill(0, 3);
        r.serve(0);
        r.restart();
        Due.due("serve(0) of one that was answered before it was gone", r.serve(0), 0);
        r.set(7, 0);
        Due.due("serve(0) without numbers", r.serve(0), 1);
        Due.due("count(1)", r.count(1), 2);
    }
}
