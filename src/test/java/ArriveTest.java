/** Promises 8 (arrive) and 16 (kept). */
public final class ArriveTest {
    public static void main(String[] args) {
        Due.about("promise 8");
        anAnswerSettlesOnce();
        inTheQueueToo();
        aFreedPlaceIsTaken();
        sixteenAtOnce();
        ruleFails();
        ruleIs0();
        ruleAsksAgain();
        ruleAsksAgainInTheQueue();
        ruleFailsInTheQueue();
        ruleAsksAgainWithoutATryLeft();
        theRuleIsThatOfTheArrival();
        othersAreLeftAlone();
        wrongPlaces();
        Due.about("promise 16");
        keptForAWhile();
        notKept();
        inPlaceOfOneForTheKey();
        eightAreKept();
        eachCanGiveWay();
        nothingElseIsKept();
        Due.end();
    }

    private static void anAnswerSettlesOnce() {
        OutsideAsks x = Ask.with(2, 1, 1, 2);
        x.serve(1);
        x.twice(1, 0);
        x.serve(0);
        Due.due("arrive(1)", x.arrive(1), 1);
        Due.dueAll("answers", Ask.line(x, 1), "1 0");
        Due.due("item(1, 0)", x.item(1, 0), 2);
        Due.due("item(1, 1)", x.item(1, 1), 0);
        Due.due("value(1)", x.value(1), 201);
        Due.due("arrive(0) that comes twice", x.arrive(0), 0);
        Due.due("arrive(0)", x.arrive(0), 1);
        Due.dueAll("outs", Ask.outs(x, 0), "0 1");
        Due.due("told(8)", x.told(8), 0);
    }

    private static void inTheQueueToo() {
        OutsideAsks x = Ask.with(3, 0, 1, 2, 3);
        x.serve(0);
        x.set(2, 1);
        x.tick(10);
        Due.dueAll("queued", Ask.items(x, 4), "0 1 1");
        x.serve(0);
        Due.due("arrive(1) for one in the queue", x.arrive(1), 1);
        Due.dueAll("queued", Ask.items(x, 4), "0 0 1");
        Due.due("told(6)", x.told(6), 1);
        x.tick(1);
        Due.dueAll("asks", Ask.line(x, 0), "2 0 2");
        Due.dueAll("tries", Ask.items(x, 2), "2 2 2");
    }

    private static void aFreedPlaceIsTaken() {
        OutsideAsks x = Ask.with(1, 0, 1, 2, 3);
        x.serve(0);
        Due.due("arrive(0)", x.arrive(0), 1);
        Due.dueAll("states", Ask.items(x, 0), "3 1 0");
        Due.dueAll("asks", Ask.line(x, 0), "1");
    }

    private static void sixteenAtOnce() {
        OutsideAsks x = new OutsideAsks(16, 0);
        x.set(2, 1);
        for (int i = 0; i < 17; i++) {
            x.row(i, 0);
        }
        x.tick(15);
        x.set(2, 20);
        x.save();
        Due.due("restart()", x.restart(), 16);
        x.set(2, 1);
        x.tick(3);
        for (int row = 15; row >= 0; row--) {
            x.serve(Ask.place(x, 0, row));
            Due.due("arrive(0) for " + row, x.arrive(0), 1);
        }
        Due.due("told(2)", x.told(2), 16);
        Due.due("told(4)", x.told(4), 1);
        Due.due("item(16, 0)", x.item(16, 0), 1);
    }

    private static void ruleFails() {
        OutsideAsks x = Ask.with(1, 1, 1);
        Due.due("arrive of a cause", Ask.cause(x, 0, 2), 1);
        Due.due("item(0, 1)", x.item(0, 1), 2);
        Due.due("value(0)", x.value(0), 2);
        Due.due("item(0, 2)", x.item(0, 2), 1);
    }

    private static void ruleIs0() {
        OutsideAsks x = Ask.with(1, 1, 1);
        x.set(4, 2);
        Due.due("arrive of a cause", Ask.cause(x, 0, 1), 1);
        Due.due("item(0, 1)", x.item(0, 1), 4);
        Due.due("value(0)", x.value(0), 0);
    }

    private static void ruleAsksAgain() {
        OutsideAsks x = Ask.with(2, 1, 1, 2);
        x.set(6, 1);
        x.tick(3);
        Due.due("arrive of a cause", Ask.cause(x, 0, 3), 0);
        Due.due("item(0, 0)", x.item(0, 0), 1);
        Due.due("item(0, 2)", x.item(0, 2), 2);
        Due.dueAll("asks", Ask.line(x, 0), "1 0");
        Due.due("told(10)", x.told(10), 3);
        x.tick(9);
        Due.due("item(0, 1) before it is due again", x.item(0, 1), -1);
        x.tick(1);
        Due.due("item(0, 1) when it is due", x.item(0, 1), 3);
    }

    private static void ruleAsksAgainInTheQueue() {
        OutsideAsks x = new OutsideAsks(2, 1);
        x.set(2, 1);
        x.set(1, 5);
        x.set(4, 1);
        Ask.rows(x, 1, 2);
        x.twice(0, 0);
        x.refuse(0, 1);
        x.refuse(0, 1);
        Due.due("arrive(0)", x.arrive(0), 0);
        Due.dueAll("queued", Ask.items(x, 4), "1 1");
        Due.due("arrive(0) for one in the queue", x.arrive(0), 0);
        Due.dueAll("tries", Ask.items(x, 2), "2 1");
        Due.due("told(6)", x.told(6), 2);
        x.tick(2);
        Due.dueAll("asks: behind the others", Ask.line(x, 0), "1 0");
    }

    private static void ruleFailsInTheQueue() {
        OutsideAsks x = new OutsideAsks(2, 0);
        x.set(2, 1);
        x.set(0, 1);
        x.set(1, 5);
        Ask.rows(x, 1, 2);
        x.refuse(0, 1);
        x.tick(1);
        Due.dueAll("queued", Ask.items(x, 4), "1 0");
        Due.due("arrive(0) by rule 0 for one in the queue", x.arrive(0), 1);
        Due.due("item(0, 1)", x.item(0, 1), 2);
        Due.due("told(6)", x.told(6), 0);
    }

    private static void ruleAsksAgainWithoutATryLeft() {
        OutsideAsks x = Ask.with(1, 1, 1);
        x.set(5, 1);
        x.set(1, 1);
        Due.due("arrive of a cause", Ask.cause(x, 0, 2), 1);
        Due.due("item(0, 1)", x.item(0, 1), 2);
        Due.due("value(0)", x.value(0), 2);
        OutsideAsks y = new OutsideAsks(1, 1);
        y.set(5, 1);
        y.set(1, 5);
        Ask.rows(y, 1);
        for (int i = 0; i < 4; i++) {
            Due.due("arrive of a cause", Ask.cause(y, 0, 2), 0);
        }
        Due.due("item(0, 2)", y.item(0, 2), 5);
        Due.due("arrive of the fifth", Ask.cause(y, 0, 2), 1);
        Due.due("item(0, 1)", y.item(0, 1), 2);
    }

    private static void theRuleIsThatOfTheArrival() {
        OutsideAsks x = Ask.with(1, 1, 1);
        x.refuse(0, 1);
        x.set(4, 2);
        Due.due("arrive(0)", x.arrive(0), 1);
        Due.due("item(0, 1)", x.item(0, 1), 4);
    }

    private static void othersAreLeftAlone() {
        OutsideAsks x = new OutsideAsks(1, 1);
        x.set(3, 50);
        x.set(1, 1);
        Ask.rows(x, 1, 2);
        x.serve(0);
        x.tick(10);
        Due.due("item(0, 1)", x.item(0, 1), 3);
        Due.due("arrive(0) for one that is out", x.arrive(0), 0);
        Due.due("kept(1)", x.kept(1), -1);
        Due.due("value(0)", x.value(0), 0);
        x.restart();
        x.serve(0);
        Due.due("arrive(0) for a gone one", x.arrive(0), 0);
        Due.due("item(1, 0)", x.item(1, 0), 4);
        Due.due("kept(2)", x.kept(2), -1);
        waitingOnes();
    }

    /** Only a restart can make a row wait whose answer is under way. */
    private static void waitingOnes() {
        OutsideAsks x = Ask.with(1, 1, 1, 2);
        x.save();
        x.set(3, 5);
        x.twice(0, 0);
        Ask.answer(x, 0);
        x.serve(1);
        x.restart();
        Due.dueAll("states", Ask.items(x, 0), "1 0");
        Due.due("arrive(0) for one that is waiting", x.arrive(0), 0);
        Due.dueAll("states", Ask.items(x, 0), "1 0");
        Due.due("told(9)", x.told(9), 0);
    }

    private static void wrongPlaces() {
        OutsideAsks x = Ask.with(2, 1, 1, 2);
        Due.due("arrive(0) with none", x.arrive(0), -1);
        x.serve(0);
        String before = Ask.whole(x, 1);
        int[] wrong = {-1, 1, 100, Integer.MIN_VALUE, Integer.MAX_VALUE};
        for (int k : wrong) {
            Due.due("arrive(" + k + ")", x.arrive(k), -1);
        }
        Due.dueAll("after refused calls", Ask.whole(x, 1), before);
    }

    private static void keptForAWhile() {
        OutsideAsks x = Ask.with(1, 1, 1);
        x.set(3, 6);
        x.tick(4);
        Ask.answer(x, 0);
        Due.due("kept(1)", x.kept(1), 10);
        Due.due("told(9)", x.told(9), 1);
        x.tick(20);
        Due.due("kept(1) when its END is past", x.kept(1), 10);
        Due.due("told(9)", x.told(9), 1);
        Due.due("kept(2)", x.kept(2), -1);
        Due.due("kept(min)", x.kept(Long.MIN_VALUE), -1);
        x.restart();
        Due.due("kept(1) behind a restart", x.kept(1), -1);
    }

    private static void notKept() {
        OutsideAsks x = Ask.with(1, 1, 1);
        Ask.answer(x, 0);
        Due.due("kept(1) with KEEP 0", x.kept(1), -1);
        x.set(3, 100);
        Ask.rows(x, 2, 3, 4);
        Ask.cause(x, 1, 1);
        Due.due("kept(2) of a cause", x.kept(2), -1);
        x.set(5, 2);
        Ask.cause(x, 2, 2);
        Due.due("kept(3) of a rule", x.kept(3), -1);
        x.tick(50);
        Due.due("kept(4) of one in vain", x.kept(4), -1);
        Due.due("told(9)", x.told(9), 0);
    }

    private static void inPlaceOfOneForTheKey() {
        OutsideAsks x = Ask.with(2, 0, 1, 1);
        x.set(3, 5);
        Ask.answer(x, 0);
        x.set(3, 2);
        Ask.answer(x, 1);
        Due.due("kept(1) with an earlier END", x.kept(1), 2);
        Due.due("told(9)", x.told(9), 1);
        Ask.rows(x, 1);
        Due.due("value(2) by the latter", x.value(2), 102);
        x.set(3, 0);
        x.tick(3);
        Ask.rows(x, 1);
        Ask.answer(x, 3);
        Due.due("kept(1) with KEEP 0", x.kept(1), 2);
    }

    private static void keepOne(OutsideAsks x, long key, int keep) {
        x.set(3, keep);
        int row = x.row(key, 0);
        Ask.answer(x, row);
    }

    private static String ends(OutsideAsks x, long... keys) {
        StringBuilder all = new StringBuilder();
        for (long key : keys) {
            all.append(x.kept(key)).append(' ');
        }
        return all.toString().trim();
    }

    private static void eightAreKept() {
        long[] keys = {5, 3, -9, Long.MIN_VALUE, Long.MAX_VALUE, 4, 1, 2};
        int[] keeps = {9, 8, 7, 9, 7, 7, 8, 9};
        OutsideAsks x = new OutsideAsks(1, 0);
        for (int i = 0; i < keys.length; i++) {
            keepOne(x, keys[i], keeps[i]);
        }
        Due.due("told(9)", x.told(9), 8);
        keepOne(x, 100, 1);
        Due.dueAll("in place of -9", ends(x, keys), "9 8 -1 9 7 7 8 9");
        keepOne(x, 101, 50);
        Due.due("kept(100): it had the least END", x.kept(100), -1);
        keepOne(x, 102, 50);
        Due.dueAll("in place of 4", ends(x, keys), "9 8 -1 9 7 -1 8 9");
        keepOne(x, 103, 50);
        Due.dueAll("in place of the greatest", ends(x, keys), "9 8 -1 9 -1 -1 8 9");
        x.tick(9);
        keepOne(x, 3, 20);
        Due.dueAll("in place of itself", ends(x, keys), "9 29 -1 9 -1 -1 8 9");
        keepOne(x, 104, 1);
        Due.dueAll("in place of 1", ends(x, keys), "9 29 -1 9 -1 -1 -1 9");
        keepOne(x, 105, 100);
        Due.dueAll("in place of the least of three", ends(x, keys), "9 29 -1 -1 -1 -1 -1 9");
        keepOne(x, 106, 100);
        Due.dueAll("in place of 2", ends(x, keys), "9 29 -1 -1 -1 -1 -1 -1");
        Due.dueAll("the others", ends(x, 101, 102, 103, 104, 105, 106), "50 50 50 10 109 109");
        Due.due("told(9)", x.told(9), 8);
    }

    /** Each of the eight in its turn has the least END, or the least key of one END. */
    private static void eachCanGiveWay() {
        for (int last = 0; last < 8; last++) {
            OutsideAsks x = new OutsideAsks(1, 0);
            OutsideAsks y = new OutsideAsks(1, 0);
            for (int i = 0; i < 8; i++) {
                keepOne(x, i, i == last ? 3 : 4);
                keepOne(y, i == last ? -1 : i, 4);
            }
            keepOne(x, 50, 1);
            keepOne(y, 50, 1);
            Due.due("kept(" + last + ") with the least END", x.kept(last), -1);
            Due.due("kept(-1), the least key, in place " + last, y.kept(-1), -1);
            Due.due("told(9)", x.told(9), 8);
            Due.due("told(9)", y.told(9), 8);
        }
    }

    private static void nothingElseIsKept() {
        OutsideAsks x = Ask.with(1, 0, 1);
        x.set(3, 5);
        Ask.answer(x, 0);
        x.tick(2);
        Ask.rows(x, 1);
        Due.due("item(1, 1)", x.item(1, 1), 1);
        Due.due("kept(1) is not kept longer by its use", x.kept(1), 5);
    }
}
