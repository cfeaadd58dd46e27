/** Promise 2: set. What each setting's range is stands in the terms. */
public final class Promise02SetTest {
    private static final String HERE = "Promise 2";
    private static final int[] LEAST = {1, 1, 1, 0, 0, 0, 0, 0};

    public static void main(String[] args) {
        all();
        Due.end();
    }

    static void all() {
        Sentences.test(HERE, "A SETTING becomes v: what it was.", Promise02SetTest::itAnswersWhatItWas);
        Sentences.test(HERE, "A SETTING becomes v: what it was.", Promise02SetTest::othersStayAsTheyWere);
        Sentences.test(HERE, "NONE.", Promise02SetTest::thereIsNoSettingBelow0);
        Sentences.test(HERE, "NONE.", Promise02SetTest::thereIsNoSettingAbove7);
        Sentences.test(HERE, "NONE.", Promise02SetTest::aRefusedValueChangesNothing);
        String asItWas = "(What is KEPT, DUE, under way is as it was; GOING ON.)";
        Sentences.test(HERE, asItWas, Promise02SetTest::whatIsKeptIsAsItWas);
        Sentences.test(HERE, asItWas, Promise02SetTest::whatIsDueIsAsItWas);
        Sentences.test(HERE, asItWas, Promise02SetTest::whatIsUnderWayIsAsItWas);
        Sentences.test(HERE, asItWas, Promise02SetTest::itGoesOn);
        Sentences.test(HERE, asItWas, Promise02SetTest::belowWhatWasSentNoMoreIsSent);
    }

    private static void itAnswersWhatItWas() {
        Run r = new Run(1, 0);
        int[] first = {10, 2, 20, 0, 0, 0, 0, 1};
        int[] greatest = {100, 5, 20, 100, 2, 2, 2, 1};
        for (int what = 0; what < 8; what++) {
            Due.due("set(" + what + ", greatest)", r.set(what, greatest[what]), first[what]);
            Due.due("set(" + what + ", greatest) again", r.set(what, greatest[what]), greatest[what]);
            Due.due("set(" + what + ", least)", r.set(what, LEAST[what]), greatest[what]);
            Due.due("set(" + what + ", first)", r.set(what, first[what]), LEAST[what]);
        }
    }

    private static void othersStayAsTheyWere() {
        int[] values = {50, 3, 7, 60, 1, 2, 1, 0};
        Run r = new Run(1, 0);
        for (int what = 0; what < 8; what++) {
            r.set(what, values[what]);
        }
        for (int what = 0; what < 8; what++) {
            Due.due("set(" + what + ", least)", r.set(what, LEAST[what]), values[what]);
        }
    }

    private static void thereIsNoSettingBelow0() {
        int[] whats = {-1, -2, -8, Integer.MIN_VALUE};
        for (int what : whats) {
            Refused.none("set(" + what + ", 1)", Refused::busy, r -> r.set(what, 1));
        }
    }

    private static void thereIsNoSettingAbove7() {
        int[] whats = {8, 9, 16, Integer.MAX_VALUE};
        for (int what : whats) {
            Refused.none("set(" + what + ", 1)", Refused::busy, r -> r.set(what, 1));
        }
    }

    private static void aRefusedValueChangesNothing() {
        int[] values = {Integer.MIN_VALUE, -1, 101, Integer.MAX_VALUE};
        for (int what = 0; what < 8; what++) {
            for (int v : values) {
                int setting = what;
                Refused.none("set(" + what + ", " + v + ")", Refused::busy, r -> r.set(setting, v));
            }
        }
    }

    private static void whatIsKeptIsAsItWas() {
        Run r = Run.with(1, 1, 1);
        r.set(3, 7);
        r.answer(0);
        Due.due("set(3, 100)", r.set(3, 100), 7);
        Due.due("kept(1) with a longer KEEP", r.kept(1), 7);
        Due.due("set(3, 0)", r.set(3, 0), 100);
        Due.due("kept(1) with KEEP 0", r.kept(1), 7);
        Due.due("told(9) with KEEP 0", r.told(9), 1);
        r.row(1, 5);
        Due.due("item(1, 1) by what is kept yet", r.item(1, 1), 1);
    }

    private static void whatIsDueIsAsItWas() {
        Run r = Run.with(1, 1, 1);
        r.set(0, 3);
        r.tick(9);
        Due.due("item(0, 2) at 9", r.item(0, 2), 1);
        r.set(0, 100);
        r.tick(1);
        Due.due("item(0, 2) at 10", r.item(0, 2), 2);
        Due.due("told(11) at 10", r.told(11), 1);
    }

    private static void whatIsUnderWayIsAsItWas() {
        Run r = Run.with(3, 1, 1, 2, 3);
        r.serve(0);
        r.refuse(0, 1);
        for (int what = 0; what < 8; what++) {
            r.set(what, LEAST[what]);
        }
        Due.dueAll("asks", r.asks(), "2");
        Due.dueAll("answers", r.answers(), "0 1");
        Due.due("arrive(0)", r.arrive(0), 1);
        Due.due("value(0)", r.value(0), 101);
        Due.due("set(4, 2)", r.set(4, 2), 0);
        Due.due("arrive(0)", r.arrive(0), 1);
        Due.due("item(1, 1) by the rule at its arrival", r.item(1, 1), 4);
    }

    private static void itGoesOn() {
        Run r = new Run(5, 1);
        r.set(2, 1);
        r.rows(1, 2, 3, 4);
        Due.dueAll("asks with RATE 1", r.asks(), "0");
        Due.due("set(2, 3)", r.set(2, 3), 1);
        Due.dueAll("asks with RATE 3", r.asks(), "0 1 2");
        Due.dueAll("queued", r.queued(), "0 0 0 1");
    }

    private static void belowWhatWasSentNoMoreIsSent() {
        Run r = new Run(5, 1);
        r.set(2, 3);
        r.rows(1, 2, 3, 4);
        Due.due("set(2, 1)", r.set(2, 1), 3);
        Due.due("told(11)", r.told(11), 3);
        Due.due("told(6)", r.told(6), 1);
        r.rows(5);
        Due.due("told(6)", r.told(6), 2);
        r.tick(1);
        Due.due("told(11) in the next TICK", r.told(11), 1);
        Due.due("told(6) in the next TICK", r.told(6), 1);
    }
}
