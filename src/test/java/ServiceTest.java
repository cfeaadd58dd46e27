/** Promises 6 (serve), 7 (refuse) and 15 (count). */
public final class ServiceTest {
    public static void main(String[] args) {
        Due.about("promise 6");
        itActsAndCounts();
        itActsOnceForANumber();
        withoutNumbersItActsEachTime();
        itAnswersAsTheLatestTime();
        goneRowsAreKnown();
        aFullLineLosesTheAnswer();
        Due.about("promise 7");
        aRefusalIsNoAct();
        causesAre1To3();
        aFullLineLosesTheRefusal();
        Due.about("promises 6 and 7");
        wrongPlaces();
        Due.about("promise 15");
        counts();
        Due.end();
    }

    private static void itActsAndCounts() {
        OutsideAsks x = Ask.with(3, 1, 1, 1, 2);
        Due.due("serve(1)", x.serve(1), 1);
        Due.dueAll("asks", Ask.line(x, 0), "0 2");
        Due.dueAll("answers", Ask.line(x, 1), "1");
        Due.due("serve(1)", x.serve(1), 1);
        Due.due("serve(0)", x.serve(0), 1);
        Due.dueAll("answers", Ask.line(x, 1), "1 2 0");
        Due.dueAll("not arrived yet", Ask.items(x, 0), "1 1 1");
        x.arrive(0);
        x.arrive(0);
        x.arrive(0);
        Due.dueAll("values", Ask.values(x), "102 101 201");
    }

    private static void itActsOnceForANumber() {
        OutsideAsks x = Ask.with(2, 1, 1, 1);
        x.twice(0, 0);
        x.twice(0, 0);
        Due.due("serve(0)", x.serve(0), 1);
        Due.due("serve(0) of the other row", x.serve(0), 1);
        Due.due("serve(0) again", x.serve(0), 0);
        Due.due("serve(0) again", x.serve(0), 0);
        Due.due("count(1)", x.count(1), 2);
        Due.due("told(8)", x.told(8), 4);
        Due.due("arrive(3)", x.arrive(3), 1);
        Due.due("value(0)", x.value(0), 101);
    }

    private static void withoutNumbersItActsEachTime() {
        OutsideAsks x = Ask.with(2, 1, 1);
        x.set(7, 0);
        x.twice(0, 0);
        Due.due("serve(0)", x.serve(0), 1);
        Due.due("serve(0)", x.serve(0), 1);
        Due.due("count(1)", x.count(1), 2);
        Due.due("arrive(1)", x.arrive(1), 1);
        Due.due("value(0)", x.value(0), 102);
    }

    private static void itAnswersAsTheLatestTime() {
        OutsideAsks x = Ask.with(2, 1, 1);
        x.set(7, 0);
        x.twice(0, 0);
        x.twice(0, 0);
        x.twice(0, 0);
        x.serve(0);
        x.serve(0);
        x.refuse(0, 1);
        x.set(7, 1);
        Due.due("serve(0)", x.serve(0), 0);
        Due.due("arrive(3)", x.arrive(3), 1);
        Due.due("value(0) as the latest time", x.value(0), 102);
    }

    private static void goneRowsAreKnown() {
        OutsideAsks x = Ask.with(2, 1, 1, 1);
        x.serve(0);
        x.twice(0, 0);
        x.restart();
        Due.due("item(1, 0)", x.item(1, 0), 4);
        Due.due("serve(0) of a gone row", x.serve(0), 1);
        Due.due("serve(0) of it again", x.serve(0), 0);
        Due.due("count(1)", x.count(1), 2);
        Ask.rows(x, 1);
        Ask.answer(x, 2);
        Due.due("value(2)", x.value(2), 103);
    }

    /** 99 or 100 answers under way of row 0, which is answered, and asks of it. */
    private static OutsideAsks withAnswers(int answers) {
        OutsideAsks x = Ask.with(2, 1, 1, 2);
        x.serve(0);
        while (x.told(8) < answers) {
            x.twice(1, 0);
        }
        return x;
    }

    private static void aFullLineLosesTheAnswer() {
        OutsideAsks x = withAnswers(100);
        Due.due("serve(0)", x.serve(0), 1);
        Due.due("told(8)", x.told(8), 100);
        Due.due("told(7)", x.told(7), 0);
        Due.due("count(2)", x.count(2), 1);
        Due.due("under(1, 99)", x.under(1, 99), 0);
        x.tick(10);
        x.lose(1, 0);
        Due.due("serve of the row that was tried again", x.serve(Ask.place(x, 0, 1)), 0);
        Due.due("under(1, 99)", x.under(1, 99), 1);
        OutsideAsks y = withAnswers(99);
        Due.due("serve(0)", y.serve(0), 1);
        Due.due("under(1, 99)", y.under(1, 99), 1);
    }

    private static void aRefusalIsNoAct() {
        OutsideAsks x = Ask.with(3, 1, 1, 2, 3);
        Due.due("refuse(1, 3)", x.refuse(1, 3), 0);
        Due.dueAll("asks", Ask.line(x, 0), "0 2");
        Due.dueAll("answers", Ask.line(x, 1), "1");
        Due.due("count(2)", x.count(2), 0);
        Due.due("arrive(0)", x.arrive(0), 1);
        Due.due("value(1)", x.value(1), 3);
        x.twice(0, 0);
        x.refuse(0, 1);
        Due.due("serve of one that was refused before", x.serve(1), 1);
        Due.due("count(1)", x.count(1), 1);
    }

    private static void causesAre1To3() {
        OutsideAsks x = Ask.with(3, 1, 1, 2, 3);
        String before = Ask.whole(x, 1);
        int[] wrong = {0, 4, -1, Integer.MIN_VALUE, Integer.MAX_VALUE};
        for (int cause : wrong) {
            Due.due("refuse(0, " + cause + ")", x.refuse(0, cause), -1);
        }
        Due.dueAll("after refused refusals", Ask.whole(x, 1), before);
        for (int cause = 1; cause <= 3; cause++) {
            Due.due("refuse(0, " + cause + ")", x.refuse(0, cause), 0);
            x.arrive(0);
            Due.due("value", x.value(cause - 1), cause);
        }
    }

    private static void aFullLineLosesTheRefusal() {
        OutsideAsks x = withAnswers(100);
        Due.due("refuse(0, 1)", x.refuse(0, 1), 0);
        Due.due("told(7)", x.told(7), 0);
        Due.due("told(8)", x.told(8), 100);
        Due.due("under(1, 99)", x.under(1, 99), 0);
        OutsideAsks y = withAnswers(99);
        Due.due("refuse(0, 1)", y.refuse(0, 1), 0);
        Due.due("under(1, 99)", y.under(1, 99), 1);
    }

    private static void wrongPlaces() {
        OutsideAsks x = Ask.with(2, 1, 1, 2, 3);
        String before = Ask.whole(x, 1, 2, 3);
        int[] wrong = {-1, 2, 99, 100, Integer.MIN_VALUE, Integer.MAX_VALUE};
        for (int k : wrong) {
            Due.due("serve(" + k + ")", x.serve(k), -1);
            Due.due("refuse(" + k + ", 1)", x.refuse(k, 1), -1);
        }
        Due.dueAll("after refused calls", Ask.whole(x, 1, 2, 3), before);
    }

    private static void counts() {
        OutsideAsks x = new OutsideAsks(16, 0);
        long[] keys = {0, Long.MIN_VALUE, Long.MAX_VALUE, -1, 1L << 32, 0};
        for (long key : keys) {
            x.row(key, 0);
            Due.due("count before", x.count(key), 0);
        }
        for (int i = 0; i < keys.length; i++) {
            x.serve(0);
        }
        for (long key : keys) {
            Due.due("count(" + key + ")", x.count(key), key == 0 ? 2 : 1);
        }
        Due.due("count of a key that never came", x.count(12345), 0);
        x.restart();
        Due.due("count(0) behind a restart", x.count(0), 2);
        manyKeys();
    }

    private static void manyKeys() {
        OutsideAsks x = new OutsideAsks(16, 0);
        x.set(0, 1);
        x.set(1, 1);
        for (int i = 0; i < 150; i++) {
            x.row(i, 0);
            x.serve(0);
            if (i % 16 == 15) {
                x.tick(1);
            }
        }
        for (int i = 0; i < 150; i++) {
            Due.due("count(" + i + ")", x.count(i), 1);
        }
    }
}
