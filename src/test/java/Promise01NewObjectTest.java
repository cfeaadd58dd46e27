/** Promise 1: a new object. */
public final class Promise01NewObjectTest {
    private static final String HERE = "Promise 1";

    public static void main(String[] args) {
        all();
        Due.end();
    }

    static void all() {
        String most = "MOST is the nearest to most of 1 .. 16;";
        Sentences.test(HERE, most, Promise01NewObjectTest::belowOneIsOne);
        Sentences.test(HERE, most, Promise01NewObjectTest::oneToSixteenIsItself);
        Sentences.test(HERE, most, Promise01NewObjectTest::aboveSixteenIsSixteen);
        String order = "ORDERED, if order is odd.";
        Sentences.test(HERE, order, Promise01NewObjectTest::oddIsOrdered);
        Sentences.test(HERE, order, Promise01NewObjectTest::evenIsNotOrdered);
        Sentences.test("What it is", "An object is used for at most 512 calls after it has been made;",
            Promise01NewObjectTest::theLastOf512CallsIsAnswered);
    }

    private static void mostIs(int given, int due) {
        Run r = new Run(given, 0);
        r.manyRows(18);
        Due.due("told(4) with most " + given, r.told(4), due);
        Due.due("told(3) with most " + given, r.told(3), 18 - due);
    }

    private static void belowOneIsOne() {
        int[] given = {0, -1, -2, -16, -17, Integer.MIN_VALUE};
        for (int most : given) {
            mostIs(most, 1);
        }
    }

    private static void oneToSixteenIsItself() {
        for (int most = 1; most <= 16; most++) {
            mostIs(most, most);
        }
    }

    private static void aboveSixteenIsSixteen() {
        int[] given = {17, 18, 32, 300, Integer.MAX_VALUE};
        for (int most : given) {
            mostIs(most, 16);
        }
    }

    /** Row 1 is settled while row 0 is not: in order it is held. */
    private static void wentOut(int order, int due) {
        Run r = Run.with(2, order, 1, 2);
        r.answer(1);
        Due.due("told(2) with order " + order, r.told(2), due);
        Due.due("told(5) with order " + order, r.told(5), 1 - due);
    }

    private static void oddIsOrdered() {
        int[] odd = {1, 3, 5, -1, -3, Integer.MAX_VALUE, Integer.MIN_VALUE + 1};
        for (int order : odd) {
            wentOut(order, 0);
        }
    }

    private static void evenIsNotOrdered() {
        int[] even = {0, 2, 4, -2, -4, Integer.MAX_VALUE - 1, Integer.MIN_VALUE};
        for (int order : even) {
            wentOut(order, 1);
        }
    }

    private static void theLastOf512CallsIsAnswered() {
        Run ticks = new Run(16, 1);
        for (int i = 1; i <= Run.MOST_CALLS; i++) {
            Due.due("tick(1000), call " + i, ticks.tick(1000), 1000 * i);
        }
        Run rows = new Run(16, 0);
        for (int i = 0; i < 300; i++) {
            rows.row(i, i);
        }
        while (rows.callsGiven() < Run.MOST_CALLS - 2) {
            rows.tick(3);
        }
        Due.due("row, call 511", rows.row(1, 1), -4);
        Due.due("told(1), call 512", rows.told(1), 300);
    }
}
