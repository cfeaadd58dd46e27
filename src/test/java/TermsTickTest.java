/** Terms: A TICK. */
public final class TermsTickTest {
    private static final String HERE = "Terms";

    public static void main(String[] args) {
        all();
        Due.end();
    }

    static void all() {
        String now = "A TICK: NOW is 1 more, no ask was sent in it yet;";
        Sentences.test(HERE, now, TermsTickTest::nowIsOneMore);
        Sentences.test(HERE, now, TermsTickTest::noAskWasSentYet);
        String due = "then, by numbers, each WORKING ROW that is DUE (not one in THE QUEUE) at NOW or before is TRIED AGAIN:";
        Sentences.test(HERE, due, TermsTickTest::dueAtNowNotBeforeIt);
        Sentences.test(HERE, due, TermsTickTest::byNumbersNotAsTheyWereSent);
        Sentences.test(HERE, due, TermsTickTest::notOneInTheQueue);
        Sentences.test(HERE, due, TermsTickTest::onlyWorkingRows);
        Sentences.test(HERE, due, TermsTickTest::sixteenAtOnce);
        String less = "if it has less than TRIES TRIES, it has one more, and is in THE QUEUE behind the others;";
        Sentences.test(HERE, less, TermsTickTest::oneTryMore);
        Sentences.test(HERE, less, TermsTickTest::behindTheOthers);
        Sentences.test(HERE, less, TermsTickTest::triesAreThoseOfNow);
        String else3 = "else it is SETTLED (3).";
        Sentences.test(HERE, else3, TermsTickTest::withAllTriesItIsInVain);
        Sentences.test(HERE, else3, TermsTickTest::withMoreThanAllTriesItIsInVain);
    }

    private static void nowIsOneMore() {
        Run r = new Run(1, 1);
        for (int i = 1; i <= 5; i++) {
            Due.due("tick(1)", r.tick(1), i);
        }
    }

    private static void noAskWasSentYet() {
        Run r = new Run(16, 1);
        r.set(2, 3);
        r.manyRows(8);
        Due.due("told(11)", r.told(11), 3);
        r.tick(1);
        Due.due("told(7)", r.told(7), 6);
        Due.due("told(11)", r.told(11), 3);
        r.tick(1);
        Due.due("told(7)", r.told(7), 8);
        Due.due("told(11)", r.told(11), 2);
        r.tick(1);
        Due.due("told(11)", r.told(11), 0);
    }

    private static void dueAtNowNotBeforeIt() {
        Run r = new Run(1, 1);
        r.tick(3);
        r.rows(1);
        Due.due("tick(9)", r.tick(9), 12);
        Due.due("item(0, 2)", r.item(0, 2), 1);
        Due.due("tick(1)", r.tick(1), 13);
        Due.due("item(0, 2)", r.item(0, 2), 2);
        Due.due("tick(9)", r.tick(9), 22);
        Due.due("item(0, 0)", r.item(0, 0), 1);
        Due.due("tick(1)", r.tick(1), 23);
        Due.due("item(0, 0)", r.item(0, 0), 3);
    }

    /** Rows 1 and 2 are sent first and row 0 once more behind them, and all are due at once. */
    private static void byNumbersNotAsTheyWereSent() {
        Run r = new Run(3, 0);
        r.set(1, 3);
        r.set(4, 1);
        r.rows(1, 2, 3);
        r.fail(0, 1);
        Due.dueAll("asks", r.asks(), "1 2 0");
        r.loseAll(0);
        r.tick(10);
        Due.dueAll("asks", r.asks(), "0 1 2");
        Due.dueAll("tries", r.tries(), "3 2 2");
    }

    /** Row 0 was due at 1, and again and again no ask is left for it: it keeps its try. */
    private static void notOneInTheQueue() {
        Run r = new Run(3, 1);
        r.set(0, 1);
        r.set(1, 5);
        r.set(2, 1);
        r.rows(1, 2, 3);
        r.tick(1);
        Due.dueAll("tries", r.tries(), "2 1 1");
        Due.dueAll("queued", r.queued(), "1 0 1");
        r.tick(1);
        Due.dueAll("tries", r.tries(), "2 2 1");
        Due.dueAll("queued", r.queued(), "1 1 0");
        r.tick(1);
        Due.dueAll("tries", r.tries(), "2 2 2");
        Due.dueAll("queued", r.queued(), "0 1 1");
        Due.dueAll("asks", r.asks(), "0 1 2 0");
    }

    private static void onlyWorkingRows() {
        Run r = Run.with(2, 1, 1, 2, 3);
        r.answer(1);
        r.mark();
        r.tick(10);
        Due.dueAll("states", r.states(), "1 2 1 2");
        Due.dueAll("tries", r.tries(), "2 1 2 0");
        Run s = Run.with(2, 1, 1, 2);
        s.answer(0);
        s.tick(10);
        Due.dueAll("tries of one that is out", s.tries(), "1 2");
        s.restart();
        s.tick(10);
        Due.dueAll("states of gone ones", s.states(), "4 4");
    }

    private static void sixteenAtOnce() {
        Run r = new Run(16, 0);
        r.manyRows(17);
        r.tick(10);
        Due.due("told(11)", r.told(11), 16);
        Due.due("item(15, 2)", r.item(15, 2), 2);
        r.tick(10);
        Due.due("told(2)", r.told(2), 16);
        Due.due("item(15, 1)", r.item(15, 1), 3);
        Due.due("item(16, 0)", r.item(16, 0), 1);
    }

    private static void oneTryMore() {
        Run r = new Run(1, 1);
        r.set(0, 1);
        r.set(1, 4);
        r.rows(1);
        for (int tries = 1; tries <= 4; tries++) {
            Due.due("item(0, 2)", r.item(0, 2), tries);
            Due.due("told(10)", r.told(10), tries);
            r.tick(1);
        }
        Due.due("item(0, 1)", r.item(0, 1), 3);
    }

    private static void behindTheOthers() {
        Run r = new Run(3, 1);
        r.set(0, 1);
        r.set(1, 5);
        r.set(2, 1);
        r.rows(1, 2, 3);
        r.tick(1);
        Due.dueAll("asks: row 1 is ahead of row 0", r.asks(), "0 1");
        r.set(0, 100);
        r.tick(1);
        Due.dueAll("asks: row 2 is ahead of row 0", r.asks(), "0 1 2");
        r.tick(1);
        Due.dueAll("asks", r.asks(), "0 1 2 0");
    }

    private static void triesAreThoseOfNow() {
        Run r = Run.with(1, 1, 1);
        r.tick(19);
        r.set(1, 3);
        r.tick(1);
        Due.due("item(0, 2) with one TRY more allowed", r.item(0, 2), 3);
        Due.due("item(0, 0)", r.item(0, 0), 1);
    }

    private static void withAllTriesItIsInVain() {
        Run r = Run.with(1, 1, 9);
        r.tick(20);
        Due.due("item(0, 1)", r.item(0, 1), 3);
        Due.due("item(0, 2)", r.item(0, 2), 2);
        Due.due("value(0)", r.value(0), 0);
        Due.due("out(0, 2)", r.out(0, 2), 20);
        Due.due("told(7)", r.told(7), 2);
        Due.due("told(4)", r.told(4), 0);
    }

    private static void withMoreThanAllTriesItIsInVain() {
        Run r = Run.with(1, 1, 9);
        r.tick(10);
        r.set(1, 1);
        r.tick(10);
        Due.due("item(0, 1)", r.item(0, 1), 3);
        Due.due("item(0, 2)", r.item(0, 2), 2);
    }
}
