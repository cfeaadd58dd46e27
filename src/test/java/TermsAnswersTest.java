/** Terms: AN ANSWER that arrives. */
public final class TermsAnswersTest {
    private static final String HERE = "Terms";

    public static void main(String[] args) {
        all();
        Due.end();
    }

    static void all() {
        String working = "AN ANSWER that arrives for a ROW that is WORKING "
            + "(in THE QUEUE, too, from which it goes then, if it is SETTLED):";
        Sentences.test(HERE, working, TermsAnswersTest::inTheQueueItIsAnsweredAndGoesFromIt);
        Sentences.test(HERE, working, TermsAnswersTest::inTheQueueItFailsAndGoesFromIt);
        Sentences.test(HERE, working, TermsAnswersTest::theOthersInTheQueueKeepTheirOrder);
        Sentences.test(HERE, working, TermsAnswersTest::anEarlierAnswerCountsForALaterTry);
        keeping();
        causes();
        others();
    }

    private static void keeping() {
        String kept = "without a CAUSE: SETTLED (0), and if KEEP is above 0 it is KEPT for its KEY "
            + "with the END NOW and KEEP, in place of one for that KEY;";
        Sentences.test(HERE, kept, TermsAnswersTest::withKeep0NothingIsKept);
        Sentences.test(HERE, kept, TermsAnswersTest::withKeep1ItIsKept);
        Sentences.test(HERE, kept, TermsAnswersTest::theEndIsNowAndKeepOfTheArrival);
        Sentences.test(HERE, kept, TermsAnswersTest::inPlaceOfOneForTheKeyThoughItsEndWasLater);
        Sentences.test(HERE, kept, TermsAnswersTest::inPlaceOfOneForTheKeyWhenEightAreKept);
        Sentences.test(HERE, kept, TermsAnswersTest::withKeep0AnOlderOneStays);
        Sentences.test(HERE, kept, TermsAnswersTest::onlyAnswersAreKept);
        String eight = "else, when 8 are kept, in place of the one with the least END, of several that with the least KEY.";
        Sentences.test(HERE, eight, TermsAnswersTest::eightAreKept);
        Sentences.test(HERE, eight, TermsAnswersTest::theNinthTakesThePlaceOfTheLeastEnd);
        Sentences.test(HERE, eight, TermsAnswersTest::ofSeveralThatOfTheLeastKey);
        Sentences.test(HERE, eight, TermsAnswersTest::theLeastKeyIsTheLeastOfAllLongs);
        Sentences.test(HERE, eight, TermsAnswersTest::theEndCountsBeforeTheKey);
        Sentences.test(HERE, eight, TermsAnswersTest::alsoWhenItsOwnEndIsTheLeast);
        Sentences.test(HERE, eight, TermsAnswersTest::endsThatArePastCountAmongTheEight);
    }

    private static void causes() {
        String settles = "With a CAUSE: by its RULE: 0 SETTLED (2); 2 SETTLED (4);";
        Sentences.test(HERE, settles, TermsAnswersTest::rule0);
        Sentences.test(HERE, settles, TermsAnswersTest::rule2);
        Sentences.test(HERE, settles, TermsAnswersTest::theRuleIsThatOfTheArrival);
        String again = "1: nothing, if it is in THE QUEUE; else TRIED AGAIN, but SETTLED (2), not (3), if it has no TRY left.";
        Sentences.test(HERE, again, TermsAnswersTest::rule1InTheQueueIsNothing);
        Sentences.test(HERE, again, TermsAnswersTest::rule1InTheQueueIsNothingAlsoWithoutATryLeft);
        Sentences.test(HERE, again, TermsAnswersTest::rule1InTheQueueLeavesItItsPlaceThere);
        Sentences.test(HERE, again, TermsAnswersTest::rule1TriesAgain);
        Sentences.test(HERE, again, TermsAnswersTest::rule1WithTheLastTry);
        Sentences.test(HERE, again, TermsAnswersTest::rule1WithoutATryLeft);
        Sentences.test(HERE, again, TermsAnswersTest::rule1WithMoreTriesThanThereAre);
    }

    private static void others() {
        String nothing = "For others nothing happens.";
        Sentences.test(HERE, nothing, TermsAnswersTest::forOneThatIsSettled);
        Sentences.test(HERE, nothing, TermsAnswersTest::forOneThatIsOut);
        Sentences.test(HERE, nothing, TermsAnswersTest::forOneThatIsGone);
        Sentences.test(HERE, nothing, TermsAnswersTest::forOneThatIsWaiting);
    }

    /** Three rows were due: row 0 was sent again, 1 and 2 are in the queue; an answer of row 1 is under way. */
    private static Run queued(int cause) {
        Run r = Run.with(3, 0, 1, 2, 3);
        if (cause == 0) {
            r.serve(1);
        } else {
            r.refuse(1, cause);
        }
        r.set(2, 1);
        r.tick(10);
        Due.dueAll("queued", r.queued(), "0 1 1");
        return r;
    }

    private static void inTheQueueItIsAnsweredAndGoesFromIt() {
        Run r = queued(0);
        Due.due("arrive(0)", r.arrive(0), 1);
        Due.dueAll("queued", r.queued(), "0 0 1");
        Due.due("told(6)", r.told(6), 1);
        Due.due("item(1, 1)", r.item(1, 1), 0);
        r.tick(3);
        Due.dueAll("asks: none of row 1", r.asks(), "0 2 0 2");
        Due.due("told(10)", r.told(10), 5);
    }

    private static void inTheQueueItFailsAndGoesFromIt() {
        Run r = queued(3);
        Due.due("arrive(0)", r.arrive(0), 1);
        Due.dueAll("queued", r.queued(), "0 0 1");
        Due.due("item(1, 1)", r.item(1, 1), 2);
        Run s = queued(3);
        s.set(6, 2);
        Due.due("arrive(0)", s.arrive(0), 1);
        Due.dueAll("queued", s.queued(), "0 0 1");
        Due.due("item(1, 1)", s.item(1, 1), 4);
    }

    private static void theOthersInTheQueueKeepTheirOrder() {
        Run r = Run.with(5, 0, 1, 2, 3, 4, 5);
        r.serve(2);
        r.set(2, 1);
        r.loseAll(0);
        r.tick(10);
        Due.dueAll("queued", r.queued(), "0 1 1 1 1");
        r.arrive(0);
        r.tick(3);
        Due.dueAll("asks", r.asks(), "0 1 3 4");
    }

    private static void anEarlierAnswerCountsForALaterTry() {
        Run r = Run.with(1, 0, 1);
        r.serve(0);
        r.tick(10);
        Due.due("item(0, 2)", r.item(0, 2), 2);
        Due.due("arrive(0)", r.arrive(0), 1);
        Due.due("item(0, 1)", r.item(0, 1), 0);
        Due.due("item(0, 2)", r.item(0, 2), 2);
    }

    private static void withKeep0NothingIsKept() {
        Run r = Run.with(1, 1, 1);
        r.answer(0);
        Due.due("item(0, 1)", r.item(0, 1), 0);
        Due.due("kept(1)", r.kept(1), -1);
        Due.due("told(9)", r.told(9), 0);
        r.row(1, 5);
        Due.due("item(1, 0)", r.item(1, 0), 1);
    }

    private static void withKeep1ItIsKept() {
        Run r = Run.with(1, 1, 1);
        r.set(3, 1);
        r.answer(0);
        Due.due("item(0, 1)", r.item(0, 1), 0);
        Due.due("kept(1)", r.kept(1), 1);
        Due.due("told(9)", r.told(9), 1);
    }

    private static void theEndIsNowAndKeepOfTheArrival() {
        Run r = Run.with(1, 1, 1);
        r.set(3, 50);
        r.tick(2);
        r.serve(0);
        r.tick(3);
        r.set(3, 8);
        r.arrive(0);
        Due.due("kept(1)", r.kept(1), 13);
    }

    private static void inPlaceOfOneForTheKeyThoughItsEndWasLater() {
        Run r = Run.with(2, 0, 1, 1);
        r.set(3, 50);
        r.answer(0);
        Due.due("kept(1)", r.kept(1), 50);
        r.set(3, 2);
        r.answer(1);
        Due.due("kept(1)", r.kept(1), 2);
        Due.due("told(9)", r.told(9), 1);
        r.row(1, 5);
        Due.due("value(2) is the latter's", r.value(2), 102);
    }

    private static Run withEight(long... keys) {
        Run r = new Run(2, 0);
        for (int i = 0; i < 8; i++) {
            r.keep(keys.length == 0 ? i + 1 : keys[i], 10);
        }
        return r;
    }

    private static void inPlaceOfOneForTheKeyWhenEightAreKept() {
        Run r = withEight();
        r.tick(11);
        r.keep(5, 3);
        Due.due("told(9)", r.told(9), 8);
        Due.dueAll("ends", r.ends(1, 2, 3, 4, 5, 6, 7, 8), "10 10 10 10 14 10 10 10");
    }

    private static void withKeep0AnOlderOneStays() {
        Run r = Run.with(2, 0, 1, 1);
        r.set(3, 50);
        r.answer(0);
        r.set(3, 0);
        r.answer(1);
        Due.due("kept(1)", r.kept(1), 50);
        r.row(1, 5);
        Due.due("value(2)", r.value(2), 101);
    }

    private static void onlyAnswersAreKept() {
        Run r = Run.with(1, 1, 1, 2, 3);
        r.set(3, 100);
        r.fail(0, 1);
        r.set(5, 2);
        r.fail(1, 2);
        r.tick(50);
        Due.dueAll("results", r.results(), "2 4 3");
        Due.due("told(9)", r.told(9), 0);
        Due.dueAll("ends", r.ends(1, 2, 3), "-1 -1 -1");
    }

    private static void eightAreKept() {
        Run r = withEight();
        Due.due("told(9)", r.told(9), 8);
        Due.dueAll("ends", r.ends(1, 2, 3, 4, 5, 6, 7, 8), "10 10 10 10 10 10 10 10");
        r.rows(1, 2, 3, 4, 5, 6, 7, 8);
        Due.dueAll("results", r.results(), "0 0 0 0 0 0 0 0 1 1 1 1 1 1 1 1");
    }

    /** Each of the eight in its turn has the least END. */
    private static void theNinthTakesThePlaceOfTheLeastEnd() {
        for (int least = 1; least <= 8; least++) {
            Run r = new Run(1, 0);
            for (int key = 1; key <= 8; key++) {
                r.keep(key, key == least ? 3 : 4);
            }
            r.keep(50, 9);
            Due.due("told(9)", r.told(9), 8);
            Due.due("kept(50)", r.kept(50), 9);
            Due.due("kept(" + least + ")", r.kept(least), -1);
        }
    }

    /** Each of the eight in its turn has the least key. */
    private static void ofSeveralThatOfTheLeastKey() {
        for (int least = 1; least <= 8; least++) {
            Run r = new Run(1, 0);
            for (int key = 1; key <= 8; key++) {
                r.keep(key == least ? -1 : key, 4);
            }
            r.keep(50, 4);
            Due.due("told(9)", r.told(9), 8);
            Due.due("kept(50)", r.kept(50), 4);
            Due.due("kept(-1) in place " + least, r.kept(-1), -1);
        }
    }

    private static void theLeastKeyIsTheLeastOfAllLongs() {
        long[] keys = {0, Long.MAX_VALUE, -1, Long.MIN_VALUE, 1, 1L << 32, -(1L << 32), Long.MIN_VALUE + 1};
        String[] due = {"10 10 10 -1 10 10 10 10", "10 10 10 -1 10 10 10 -1", "10 10 10 -1 10 10 -1 -1",
            "10 10 -1 -1 10 10 -1 -1", "-1 10 -1 -1 10 10 -1 -1", "-1 10 -1 -1 -1 10 -1 -1",
            "-1 10 -1 -1 -1 -1 -1 -1", "-1 -1 -1 -1 -1 -1 -1 -1"};
        Run r = withEight(keys);
        for (int i = 0; i < due.length; i++) {
            r.keep(100 + i, 90);
            Due.dueAll("ends when " + (i + 1) + " gave way", r.ends(keys), due[i]);
        }
    }

    private static void theEndCountsBeforeTheKey() {
        Run r = new Run(1, 0);
        for (int key = 1; key <= 8; key++) {
            r.keep(key, key == 8 ? 3 : 4);
        }
        r.keep(50, 9);
        Due.dueAll("ends", r.ends(1, 2, 3, 4, 5, 6, 7, 8), "4 4 4 4 4 4 4 -1");
    }

    private static void alsoWhenItsOwnEndIsTheLeast() {
        Run r = withEight();
        r.keep(50, 1);
        Due.due("kept(50)", r.kept(50), 1);
        Due.due("kept(1)", r.kept(1), -1);
        r.keep(51, 1);
        Due.due("kept(51)", r.kept(51), 1);
        Due.due("kept(50) was the least", r.kept(50), -1);
        Due.due("kept(2)", r.kept(2), 10);
    }

    private static void endsThatArePastCountAmongTheEight() {
        Run r = withEight();
        r.tick(100);
        Due.due("told(9)", r.told(9), 8);
        r.keep(50, 5);
        Due.due("told(9)", r.told(9), 8);
        Due.dueAll("ends", r.ends(1, 2, 8, 50), "-1 10 10 105");
    }

    private static void rule0() {
        for (int cause = 1; cause <= 3; cause++) {
            Run r = Run.with(1, 1, 1);
            Due.due("arrive", r.fail(0, cause), 1);
            Due.due("item(0, 1)", r.item(0, 1), 2);
            Due.due("value(0)", r.value(0), cause);
            Due.due("item(0, 2)", r.item(0, 2), 1);
        }
    }

    private static void rule2() {
        for (int cause = 1; cause <= 3; cause++) {
            Run r = Run.with(1, 1, 1);
            r.set(3 + cause, 2);
            Due.due("arrive", r.fail(0, cause), 1);
            Due.due("item(0, 1)", r.item(0, 1), 4);
            Due.due("value(0)", r.value(0), 0);
        }
    }

    private static void theRuleIsThatOfTheArrival() {
        Run r = Run.with(1, 1, 1);
        r.refuse(0, 1);
        r.set(4, 2);
        Due.due("arrive(0)", r.arrive(0), 1);
        Due.due("item(0, 1)", r.item(0, 1), 4);
    }

    /** Row 0 is refused twice: by the first refusal it comes into the queue, where row 1 is, too. */
    private static void rule1InTheQueueIsNothing() {
        Run r = new Run(2, 1);
        r.set(1, 5);
        r.set(2, 1);
        r.set(4, 1);
        r.rows(1, 2);
        r.twice(0, 0);
        r.refuse(0, 1);
        r.refuse(0, 1);
        Due.due("arrive(0)", r.arrive(0), 0);
        Due.dueAll("queued", r.queued(), "1 1");
        Due.dueAll("tries", r.tries(), "2 1");
        Due.due("arrive(0) for one in the queue", r.arrive(0), 0);
        Due.dueAll("queued", r.queued(), "1 1");
        Due.dueAll("tries", r.tries(), "2 1");
        Due.due("told(6)", r.told(6), 2);
        r.tick(2);
        Due.dueAll("asks", r.asks(), "1 0");
    }

    private static void rule1InTheQueueIsNothingAlsoWithoutATryLeft() {
        Run r = new Run(2, 1);
        r.set(1, 2);
        r.set(2, 1);
        r.set(4, 1);
        r.rows(1, 2);
        r.twice(0, 0);
        r.refuse(0, 1);
        r.refuse(0, 1);
        r.arrive(0);
        Due.dueAll("tries", r.tries(), "2 1");
        Due.due("arrive(0) for one in the queue", r.arrive(0), 0);
        Due.dueAll("states", r.states(), "1 1");
        Due.due("told(6)", r.told(6), 2);
    }

    private static void rule1InTheQueueLeavesItItsPlaceThere() {
        Run r = Run.with(3, 0, 1, 2, 3);
        r.set(4, 1);
        r.refuse(1, 1);
        r.loseAll(0);
        r.set(2, 1);
        r.tick(10);
        Due.dueAll("queued", r.queued(), "0 1 1");
        Due.due("arrive(0) for row 1, the first in the queue", r.arrive(0), 0);
        r.tick(2);
        Due.dueAll("asks", r.asks(), "0 1 2");
    }

    private static void rule1TriesAgain() {
        Run r = Run.with(2, 1, 1, 2);
        r.set(6, 1);
        r.tick(3);
        Due.due("arrive", r.fail(0, 3), 0);
        Due.due("item(0, 0)", r.item(0, 0), 1);
        Due.due("item(0, 1)", r.item(0, 1), -1);
        Due.due("item(0, 2)", r.item(0, 2), 2);
        Due.dueAll("asks", r.asks(), "1 0");
        Due.due("told(10)", r.told(10), 3);
        r.tick(9);
        Due.due("item(0, 1) before it is due again", r.item(0, 1), -1);
        r.tick(1);
        Due.due("item(0, 1) when it is due", r.item(0, 1), 3);
    }

    private static void rule1WithTheLastTry() {
        Run r = new Run(1, 1);
        r.set(5, 1);
        r.set(1, 5);
        r.rows(1);
        for (int tries = 2; tries <= 5; tries++) {
            Due.due("arrive", r.fail(0, 2), 0);
            Due.due("item(0, 2)", r.item(0, 2), tries);
        }
        Due.due("arrive of the fifth", r.fail(0, 2), 1);
        Due.due("item(0, 1)", r.item(0, 1), 2);
        Due.due("item(0, 2)", r.item(0, 2), 5);
    }

    private static void rule1WithoutATryLeft() {
        for (int cause = 1; cause <= 3; cause++) {
            Run r = new Run(1, 1);
            r.set(1, 1);
            r.set(3 + cause, 1);
            r.rows(1);
            Due.due("arrive", r.fail(0, cause), 1);
            Due.due("item(0, 1)", r.item(0, 1), 2);
            Due.due("value(0)", r.value(0), cause);
        }
    }

    private static void rule1WithMoreTriesThanThereAre() {
        Run r = Run.with(1, 1, 1);
        r.set(4, 1);
        r.tick(10);
        r.set(1, 1);
        Due.due("item(0, 2)", r.item(0, 2), 2);
        Due.due("arrive", r.fail(0, 1), 1);
        Due.due("item(0, 1)", r.item(0, 1), 2);
    }

    private static void forOneThatIsSettled() {
        Run r = Run.with(2, 1, 1, 2);
        r.set(3, 50);
        r.twice(0, 1);
        r.fail(1, 1);
        r.serve(1);
        Due.due("arrive(0)", r.arrive(0), 0);
        Due.due("item(1, 0)", r.item(1, 0), 2);
        Due.due("item(1, 1)", r.item(1, 1), 2);
        Due.due("value(1)", r.value(1), 1);
        Due.due("told(9)", r.told(9), 0);
    }

    private static void forOneThatIsOut() {
        Run r = new Run(1, 1);
        r.set(3, 50);
        r.set(1, 1);
        r.rows(1, 2);
        r.serve(0);
        r.tick(10);
        Due.due("item(0, 1)", r.item(0, 1), 3);
        Due.due("arrive(0)", r.arrive(0), 0);
        Due.due("item(0, 0)", r.item(0, 0), 3);
        Due.due("item(0, 1)", r.item(0, 1), 3);
        Due.due("value(0)", r.value(0), 0);
        Due.due("kept(1)", r.kept(1), -1);
        Due.due("told(2)", r.told(2), 1);
    }

    private static void forOneThatIsGone() {
        Run r = Run.with(2, 1, 1, 2);
        r.set(3, 50);
        r.set(4, 1);
        r.serve(0);
        r.refuse(0, 1);
        r.restart();
        Due.due("arrive(0)", r.arrive(0), 0);
        Due.due("arrive(0)", r.arrive(0), 0);
        Due.dueAll("states", r.states(), "4 4");
        Due.dueAll("tries", r.tries(), "0 0");
        Due.due("told(9)", r.told(9), 0);
        Due.due("told(6)", r.told(6), 0);
        Due.due("told(7)", r.told(7), 0);
    }

    /** Only a restart can make a row wait whose answer is under way. */
    private static void forOneThatIsWaiting() {
        Run r = Run.with(1, 1, 1, 2, 3);
        r.save();
        r.set(3, 5);
        r.answer(0);
        r.serve(0);
        r.restart();
        Due.dueAll("states", r.states(), "1 0 0");
        Due.dueAll("answers", r.answers(), "1");
        Due.due("arrive(0)", r.arrive(0), 0);
        Due.dueAll("states", r.states(), "1 0 0");
        Due.dueAll("values", r.values(), "0 0 0");
        Due.due("told(9)", r.told(9), 0);
    }
}
