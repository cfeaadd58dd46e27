/** Terms: NOW and the SETTINGS, each with its least, its greatest and its first value. */
public final class TermsSettingsTest {
    private static final String HERE = "Terms";
    private static final int WAIT = 0, TRIES = 1, RATE = 2, KEEP = 3, KNOWS = 7;

    public static void main(String[] args) {
        all();
        Due.end();
    }

    static void all() {
        Sentences.test(HERE, "NOW is a TICK, 0 at first.", TermsSettingsTest::nowIs0AtFirst);
        waits();
        tries();
        rates();
        keeps();
        rules();
        knows();
    }

    private static void waits() {
        String wait = "SETTINGS: 0 WAIT (1 .. 100, at first 10),";
        Sentences.test(HERE, wait, TermsSettingsTest::waitIsAtFirst10);
        Sentences.test(HERE, wait, TermsSettingsTest::waitMayBe1);
        Sentences.test(HERE, wait, TermsSettingsTest::waitMayBe100);
        Sentences.test(HERE, wait, TermsSettingsTest::waitBelow1IsRefused);
        Sentences.test(HERE, wait, TermsSettingsTest::waitAbove100IsRefused);
    }

    private static void tries() {
        String tries = "1 TRIES (1 .. 5; 2),";
        Sentences.test(HERE, tries, TermsSettingsTest::triesAreAtFirst2);
        Sentences.test(HERE, tries, TermsSettingsTest::triesMayBe1);
        Sentences.test(HERE, tries, TermsSettingsTest::triesMayBe5);
        Sentences.test(HERE, tries, TermsSettingsTest::triesBelow1AreRefused);
        Sentences.test(HERE, tries, TermsSettingsTest::triesAbove5AreRefused);
    }

    private static void rates() {
        String rate = "2 RATE (1 .. 20; 20),";
        Sentences.test(HERE, rate, TermsSettingsTest::rateIsAtFirst20);
        Sentences.test(HERE, rate, TermsSettingsTest::rateMayBe1);
        Sentences.test(HERE, rate, TermsSettingsTest::rateMayBe20);
        Sentences.test(HERE, rate, TermsSettingsTest::rateBelow1IsRefused);
        Sentences.test(HERE, rate, TermsSettingsTest::rateAbove20IsRefused);
    }

    private static void keeps() {
        String keep = "3 KEEP (0 .. 100; 0),";
        Sentences.test(HERE, keep, TermsSettingsTest::keepIsAtFirst0);
        Sentences.test(HERE, keep, TermsSettingsTest::keepMayBe0Again);
        Sentences.test(HERE, keep, TermsSettingsTest::keepMayBe1);
        Sentences.test(HERE, keep, TermsSettingsTest::keepMayBe100);
        Sentences.test(HERE, keep, TermsSettingsTest::keepBelow0IsRefused);
        Sentences.test(HERE, keep, TermsSettingsTest::keepAbove100IsRefused);
    }

    private static void rules() {
        String rule = "4 .. 6 RULE of CAUSE 1 .. 3 (0 fails, 1 asks again, 2 is 0; all 0),";
        Sentences.test(HERE, rule, TermsSettingsTest::rulesAreAtFirst0AndFail);
        Sentences.test(HERE, rule, TermsSettingsTest::rulesMayBe0Again);
        Sentences.test(HERE, rule, TermsSettingsTest::rule1AsksAgain);
        Sentences.test(HERE, rule, TermsSettingsTest::rule2Is0);
        Sentences.test(HERE, rule, TermsSettingsTest::eachCauseHasItsOwnRule);
        Sentences.test(HERE, rule, TermsSettingsTest::rulesBelow0AreRefused);
        Sentences.test(HERE, rule, TermsSettingsTest::rulesAbove2AreRefused);
    }

    private static void knows() {
        String knows = "7 whether the service KNOWS numbers (0, 1; 1).";
        Sentences.test(HERE, knows, TermsSettingsTest::atFirstItKnows);
        Sentences.test(HERE, knows, TermsSettingsTest::itMayNotKnow);
        Sentences.test(HERE, knows, TermsSettingsTest::itMayKnowAgain);
        Sentences.test(HERE, knows, TermsSettingsTest::knowingBelow0IsRefused);
        Sentences.test(HERE, knows, TermsSettingsTest::knowingAbove1IsRefused);
    }

    private static void refused(int what, int... values) {
        for (int v : values) {
            Refused.none("set(" + what + ", " + v + ")", Refused::busy, r -> r.set(what, v));
            Refused.none("set(" + what + ", " + v + ") of a new one", Refused::fresh, r -> r.set(what, v));
        }
    }

    private static void nowIs0AtFirst() {
        Run r = new Run(1, 1);
        Due.due("told(0)", r.told(0), 0);
        r.mark();
        Due.due("out(0, 2)", r.out(0, 2), 0);
    }

    /** A row that comes now is tried again behind so many TICKS, and not before. */
    private static void isTriedAgainBehind(Run r, int ticks) {
        r.rows(1);
        r.tick(ticks - 1);
        Due.due("item(0, 2) behind " + (ticks - 1), r.item(0, 2), 1);
        r.tick(1);
        Due.due("item(0, 2) behind " + ticks, r.item(0, 2), 2);
    }

    private static void waitIsAtFirst10() {
        isTriedAgainBehind(new Run(1, 1), 10);
        Due.due("set(0, 10)", new Run(1, 1).set(WAIT, 10), 10);
    }

    private static void waitMayBe1() {
        Run r = new Run(1, 1);
        Due.due("set(0, 1)", r.set(WAIT, 1), 10);
        isTriedAgainBehind(r, 1);
    }

    private static void waitMayBe100() {
        Run r = new Run(1, 1);
        Due.due("set(0, 100)", r.set(WAIT, 100), 10);
        isTriedAgainBehind(r, 100);
    }

    private static void waitBelow1IsRefused() {
        refused(WAIT, 0, -1, Integer.MIN_VALUE);
        Run r = new Run(1, 1);
        r.set(WAIT, 0);
        isTriedAgainBehind(r, 10);
    }

    private static void waitAbove100IsRefused() {
        refused(WAIT, 101, 102, Integer.MAX_VALUE);
        Run r = new Run(1, 1);
        r.set(WAIT, 101);
        isTriedAgainBehind(r, 10);
    }

    /** A row that comes now is asked for so often, each time for 10 TICKS, and then is in vain. */
    private static void isTried(Run r, int times) {
        r.rows(1);
        r.tick(10 * times - 1);
        Due.due("item(0, 0) before it is in vain", r.item(0, 0), 1);
        Due.due("item(0, 2)", r.item(0, 2), times);
        Due.due("told(10)", r.told(10), times);
        r.tick(1);
        Due.due("item(0, 1)", r.item(0, 1), 3);
        Due.due("item(0, 2)", r.item(0, 2), times);
        Due.due("told(10)", r.told(10), times);
    }

    private static void triesAreAtFirst2() {
        isTried(new Run(1, 1), 2);
        Due.due("set(1, 2)", new Run(1, 1).set(TRIES, 2), 2);
    }

    private static void triesMayBe1() {
        Run r = new Run(1, 1);
        Due.due("set(1, 1)", r.set(TRIES, 1), 2);
        isTried(r, 1);
    }

    private static void triesMayBe5() {
        Run r = new Run(1, 1);
        Due.due("set(1, 5)", r.set(TRIES, 5), 2);
        isTried(r, 5);
    }

    private static void triesBelow1AreRefused() {
        refused(TRIES, 0, -1, Integer.MIN_VALUE);
        Run r = new Run(1, 1);
        r.set(TRIES, 0);
        isTried(r, 2);
    }

    private static void triesAbove5AreRefused() {
        refused(TRIES, 6, 7, Integer.MAX_VALUE);
        Run r = new Run(1, 1);
        r.set(TRIES, 6);
        isTried(r, 2);
    }

    /** In one TICK so many asks are sent; answers make room for more than 16 rows to work in turn. */
    private static void sendsInATick(Run r, int asks) {
        r.manyRows(22);
        for (int row = 0; row < 6 && row < asks; row++) {
            r.answer(row);
        }
        Due.due("told(11)", r.told(11), asks);
        Due.due("told(10)", r.told(10), asks);
        Due.due("is one in the queue", r.told(6) > 0 ? 1 : 0, 1);
    }

    private static void rateIsAtFirst20() {
        sendsInATick(new Run(16, 0), 20);
        Due.due("set(2, 20)", new Run(1, 1).set(RATE, 20), 20);
    }

    private static void rateMayBe1() {
        Run r = new Run(16, 0);
        Due.due("set(2, 1)", r.set(RATE, 1), 20);
        sendsInATick(r, 1);
    }

    private static void rateMayBe20() {
        Run r = new Run(16, 0);
        r.set(RATE, 1);
        Due.due("set(2, 20)", r.set(RATE, 20), 1);
        sendsInATick(r, 20);
    }

    private static void rateBelow1IsRefused() {
        refused(RATE, 0, -1, Integer.MIN_VALUE);
        Run r = new Run(16, 0);
        r.set(RATE, 0);
        sendsInATick(r, 20);
    }

    private static void rateAbove20IsRefused() {
        refused(RATE, 21, 22, Integer.MAX_VALUE);
        Run r = new Run(16, 0);
        r.set(RATE, 21);
        sendsInATick(r, 20);
    }

    /** An answer that arrives now is kept until this END. */
    private static void isKeptUntil(Run r, int end) {
        r.rows(1);
        r.answer(0);
        Due.due("kept(1)", r.kept(1), end);
        Due.due("told(9)", r.told(9), end == -1 ? 0 : 1);
    }

    private static void keepIsAtFirst0() {
        isKeptUntil(new Run(1, 1), -1);
        Due.due("set(3, 0)", new Run(1, 1).set(KEEP, 0), 0);
    }

    private static void keepMayBe0Again() {
        Run r = new Run(1, 1);
        r.set(KEEP, 5);
        Due.due("set(3, 0)", r.set(KEEP, 0), 5);
        isKeptUntil(r, -1);
    }

    private static void keepMayBe1() {
        Run r = new Run(1, 1);
        Due.due("set(3, 1)", r.set(KEEP, 1), 0);
        isKeptUntil(r, 1);
    }

    private static void keepMayBe100() {
        Run r = new Run(1, 1);
        r.tick(7);
        Due.due("set(3, 100)", r.set(KEEP, 100), 0);
        isKeptUntil(r, 107);
    }

    private static void keepBelow0IsRefused() {
        refused(KEEP, -1, -2, Integer.MIN_VALUE);
        Run r = new Run(1, 1);
        r.set(KEEP, -1);
        isKeptUntil(r, -1);
    }

    private static void keepAbove100IsRefused() {
        refused(KEEP, 101, 102, Integer.MAX_VALUE);
        Run r = new Run(1, 1);
        r.set(KEEP, 101);
        isKeptUntil(r, -1);
    }

    /** What becomes of a row whose ask is refused by the cause. */
    private static void becomes(Run r, int cause, int settled, int result, long value) {
        int row = r.row(1, 100);
        Due.due("arrive of cause " + cause, r.fail(row, cause), settled);
        Due.due("result", r.item(row, 1), result);
        Due.due("value", r.value(row), value);
        Due.due("tries", r.item(row, 2), settled == 1 ? 1 : 2);
    }

    private static void rulesAreAtFirst0AndFail() {
        for (int cause = 1; cause <= 3; cause++) {
            becomes(new Run(1, 1), cause, 1, 2, cause);
            Due.due("set of the rule", new Run(1, 1).set(3 + cause, 0), 0);
        }
    }

    private static void rulesMayBe0Again() {
        for (int cause = 1; cause <= 3; cause++) {
            Run r = new Run(1, 1);
            r.set(3 + cause, 2);
            Due.due("set of the rule", r.set(3 + cause, 0), 2);
            becomes(r, cause, 1, 2, cause);
        }
    }

    private static void rule1AsksAgain() {
        for (int cause = 1; cause <= 3; cause++) {
            Run r = new Run(1, 1);
            Due.due("set of the rule", r.set(3 + cause, 1), 0);
            becomes(r, cause, 0, -1, 0);
            Due.dueAll("asks", r.asks(), "0");
        }
    }

    private static void rule2Is0() {
        for (int cause = 1; cause <= 3; cause++) {
            Run r = new Run(1, 1);
            Due.due("set of the rule", r.set(3 + cause, 2), 0);
            becomes(r, cause, 1, 4, 0);
        }
    }

    private static void eachCauseHasItsOwnRule() {
        for (int ruled = 1; ruled <= 3; ruled++) {
            Run r = new Run(1, 1);
            r.set(3 + ruled, 2);
            for (int cause = 1; cause <= 3; cause++) {
                becomes(r, cause, 1, cause == ruled ? 4 : 2, cause == ruled ? 0 : cause);
            }
        }
    }

    private static void rulesBelow0AreRefused() {
        for (int cause = 1; cause <= 3; cause++) {
            refused(3 + cause, -1, -2, Integer.MIN_VALUE);
            Run r = new Run(1, 1);
            r.set(3 + cause, -1);
            becomes(r, cause, 1, 2, cause);
        }
    }

    private static void rulesAbove2AreRefused() {
        for (int cause = 1; cause <= 3; cause++) {
            refused(3 + cause, 3, 4, Integer.MAX_VALUE);
            Run r = new Run(1, 1);
            r.set(3 + cause, 3);
            becomes(r, cause, 1, 2, cause);
        }
    }

    /** Whether the service acts when an ask comes to it a second time. */
    private static void actsAgain(Run r, int due) {
        r.rows(1);
        r.twice(0, 0);
        Due.due("serve(0)", r.serve(0), 1);
        Due.due("serve(0) again", r.serve(0), due);
        Due.due("count(1)", r.count(1), 1 + due);
    }

    private static void atFirstItKnows() {
        actsAgain(new Run(1, 1), 0);
        Due.due("set(7, 1)", new Run(1, 1).set(KNOWS, 1), 1);
    }

    private static void itMayNotKnow() {
        Run r = new Run(1, 1);
        Due.due("set(7, 0)", r.set(KNOWS, 0), 1);
        actsAgain(r, 1);
    }

    private static void itMayKnowAgain() {
        Run r = new Run(1, 1);
        r.set(KNOWS, 0);
        Due.due("set(7, 1)", r.set(KNOWS, 1), 0);
        actsAgain(r, 0);
    }

    private static void knowingBelow0IsRefused() {
        refused(KNOWS, -1, -2, Integer.MIN_VALUE);
        Run r = new Run(1, 1);
        r.set(KNOWS, -1);
        actsAgain(r, 0);
    }

    private static void knowingAbove1IsRefused() {
        refused(KNOWS, 2, 3, Integer.MAX_VALUE);
        Run r = new Run(1, 1);
        r.set(KNOWS, 0);
        r.set(KNOWS, 2);
        actsAgain(r, 1);
    }
}
