/** Terms: THE LINES. */
public final class TermsLinesTest {
    private static final String HERE = "Terms";

    public static void main(String[] args) {
        all();
        Due.end();
    }

    static void all() {
        Sentences.test(HERE, "THE LINES: asks, each the number of a ROW, are on their way to the service;",
            TermsLinesTest::asksAreNumbersOfRows);
        Sentences.test(HERE, "answers, each such a number, a CAUSE (0: none) and a value, on their way back:",
            TermsLinesTest::answersHaveACauseAndAValue);
        Sentences.test(HERE, "100 at most in each,", TermsLinesTest::aHundredAsks);
        Sentences.test(HERE, "100 at most in each,", TermsLinesTest::aHundredAnswers);
        Sentences.test(HERE, "in the order in which they set out;", TermsLinesTest::asksAreInTheirOrder);
        Sentences.test(HERE, "in the order in which they set out;", TermsLinesTest::answersAreInTheirOrder);
        String lost = "what is sent or answered when a line is full is lost.";
        Sentences.test(HERE, lost, TermsLinesTest::aNewAskIsLost);
        Sentences.test(HERE, lost, TermsLinesTest::aLostAskIsDueAsOthersAre);
        Sentences.test(HERE, lost, TermsLinesTest::anAskThatIsSentAgainIsLost);
        Sentences.test(HERE, lost, TermsLinesTest::allBeyondTheHundredthAreLost);
        Sentences.test(HERE, lost, TermsLinesTest::anAnswerIsLost);
        Sentences.test(HERE, lost, TermsLinesTest::aRefusalIsLost);
        Sentences.test(HERE, lost, TermsLinesTest::anAnswerFromMemoryIsLost);
    }

    private static void asksAreNumbersOfRows() {
        Run r = new Run(3, 1);
        r.mark();
        r.rows(5, 5, 6);
        Due.dueAll("asks", r.asks(), "1 2 3");
    }

    private static void answersHaveACauseAndAValue() {
        Run r = Run.with(4, 1, 1, 2, 3, 4);
        r.refuse(3, 1);
        r.serve(2);
        r.refuse(1, 3);
        r.serve(0);
        Due.dueAll("answers", r.answers(), "3 2 1 0");
        for (int i = 0; i < 4; i++) {
            r.arrive(0);
        }
        Due.dueAll("results", r.results(), "0 2 0 2");
        Due.dueAll("values", r.values(), "101 3 301 1");
    }

    private static void aHundredAsks() {
        Run r = Run.with(2, 1, 1);
        r.fill(0, 99);
        r.rows(2);
        Due.due("told(7)", r.told(7), 100);
        Due.due("under(0, 99): the hundredth is not lost", r.under(0, 99), 1);
    }

    private static void aHundredAnswers() {
        Run r = Run.with(2, 1, 1, 2);
        r.serve(0);
        r.fill(1, 99);
        r.serve(0);
        Due.due("told(8)", r.told(8), 100);
        Due.due("under(1, 99): the hundredth is not lost", r.under(1, 99), 1);
        Run s = Run.with(2, 1, 1, 2);
        s.serve(0);
        s.fill(1, 99);
        s.refuse(0, 1);
        Due.due("told(8)", s.told(8), 100);
        Due.due("under(1, 99): the hundredth is not lost", s.under(1, 99), 1);
    }

    private static void asksAreInTheirOrder() {
        Run r = Run.with(3, 1, 1, 2, 3);
        r.twice(0, 0);
        r.lose(0, 1);
        r.rows(4);
        r.fail(0, 1);
        Due.dueAll("asks", r.asks(), "2 0 3");
    }

    private static void answersAreInTheirOrder() {
        Run r = Run.with(3, 1, 1, 2, 3);
        r.serve(1);
        r.serve(1);
        r.serve(0);
        r.twice(1, 0);
        r.lose(1, 1);
        Due.dueAll("answers", r.answers(), "1 0 1");
    }

    private static Run withFullAsks(int most) {
        Run r = Run.with(most, 0, 1);
        r.fill(0, 100);
        return r;
    }

    private static void aNewAskIsLost() {
        Run r = withFullAsks(2);
        r.rows(2);
        Due.due("told(7)", r.told(7), 100);
        Due.due("under(0, 99)", r.under(0, 99), 0);
        Due.due("told(6): it has been sent", r.told(6), 0);
        Due.due("told(10)", r.told(10), 2);
        Due.due("told(11)", r.told(11), 2);
        r.lose(0, 0);
        Due.due("told(7): it does not come behind", r.told(7), 99);
        Due.due("item(1, 0)", r.item(1, 0), 1);
        Due.due("item(1, 2)", r.item(1, 2), 1);
    }

    private static void aLostAskIsDueAsOthersAre() {
        Run r = withFullAsks(2);
        r.tick(3);
        r.rows(2);
        r.lose(0, 0);
        r.lose(0, 0);
        r.tick(9);
        Due.due("item(1, 2) at 12", r.item(1, 2), 1);
        r.tick(1);
        Due.due("item(1, 2) at 13", r.item(1, 2), 2);
        Due.due("under(0, 99)", r.under(0, 99), 1);
    }

    private static void anAskThatIsSentAgainIsLost() {
        Run r = withFullAsks(1);
        r.tick(10);
        Due.due("item(0, 2)", r.item(0, 2), 2);
        Due.due("told(7)", r.told(7), 100);
        Due.due("told(10)", r.told(10), 2);
        r.lose(0, 0);
        Due.due("told(7)", r.told(7), 99);
        r.tick(10);
        Due.due("item(0, 1)", r.item(0, 1), 3);
    }

    private static void allBeyondTheHundredthAreLost() {
        Run r = Run.with(16, 0, 1);
        r.fill(0, 98);
        r.manyRows(10);
        Due.due("told(7)", r.told(7), 100);
        Due.due("under(0, 98)", r.under(0, 98), 1);
        Due.due("under(0, 99)", r.under(0, 99), 2);
        Due.due("told(10)", r.told(10), 11);
        Due.due("told(4)", r.told(4), 11);
    }

    private static Run withFullAnswers() {
        Run r = Run.with(2, 0, 1, 2);
        r.serve(0);
        r.fill(1, 100);
        return r;
    }

    private static void anAnswerIsLost() {
        Run r = withFullAnswers();
        Due.due("serve(0)", r.serve(0), 1);
        Due.due("told(7): the ask has come to the service", r.told(7), 0);
        Due.due("told(8)", r.told(8), 100);
        Due.due("under(1, 99)", r.under(1, 99), 0);
        Due.due("count(2): it acted", r.count(2), 1);
        r.lose(1, 0);
        Due.due("told(8): it does not come behind", r.told(8), 99);
    }

    private static void aRefusalIsLost() {
        Run r = withFullAnswers();
        Due.due("refuse(0, 1)", r.refuse(0, 1), 0);
        Due.due("told(7)", r.told(7), 0);
        Due.due("told(8)", r.told(8), 100);
        Due.due("under(1, 99)", r.under(1, 99), 0);
        Due.due("item(1, 0)", r.item(1, 0), 1);
        r.lose(1, 0);
        Due.due("told(8)", r.told(8), 99);
    }

    private static void anAnswerFromMemoryIsLost() {
        Run r = withFullAnswers();
        r.serve(0);
        r.tick(10);
        int again = r.place(0, 1);
        Due.due("serve of one whose answer was lost", r.serve(again), 0);
        Due.due("told(8)", r.told(8), 100);
        Due.due("under(1, 99)", r.under(1, 99), 0);
        Due.due("count(2)", r.count(2), 1);
        Due.due("item(1, 0)", r.item(1, 0), 1);
    }
}
