/** Promise 5: tick. What a TICK does stands in the terms. */
public final class Promise05TickTest {
    private static final String HERE = "Promise 5";

    public static void main(String[] args) {
        all();
        Due.end();
    }

    static void all() {
        String soMany = "So many TICKS (0 .. 1000): NOW.";
        Sentences.test(HERE, soMany, Promise05TickTest::noTickIsNow);
        Sentences.test(HERE, soMany, Promise05TickTest::oneTick);
        Sentences.test(HERE, soMany, Promise05TickTest::aThousandTicks);
        Sentences.test(HERE, soMany, Promise05TickTest::eachOfThemIsATick);
        String none = "NONE: also when NOW would be above 1000000.";
        Sentences.test(HERE, none, Promise05TickTest::lessThanNoneAreRefused);
        Sentences.test(HERE, none, Promise05TickTest::moreThanAThousandAreRefused);
        Sentences.test(HERE, none, Promise05TickTest::nowMayBe1000000ButNotAbove);
    }

    private static void noTickIsNow() {
        Run r = new Run(2, 1);
        Due.due("tick(0) at first", r.tick(0), 0);
        r.set(0, 1);
        r.set(2, 1);
        r.rows(1, 2);
        String before = r.whole(1, 2);
        Due.due("tick(0)", r.tick(0), 0);
        Due.dueAll("all behind tick(0)", r.whole(1, 2), before);
        r.tick(7);
        Due.due("tick(0) later", r.tick(0), 7);
    }

    private static void oneTick() {
        Run r = new Run(1, 1);
        Due.due("tick(1)", r.tick(1), 1);
        Due.due("tick(1)", r.tick(1), 2);
        Due.due("told(0)", r.told(0), 2);
    }

    private static void aThousandTicks() {
        Run r = new Run(1, 1);
        Due.due("tick(999)", r.tick(999), 999);
        Due.due("tick(1000)", r.tick(1000), 1999);
        Due.due("tick(1000)", r.tick(1000), 2999);
        Due.due("told(0)", r.told(0), 2999);
    }

    /** One row is at work, and each is in vain in the TICK behind that of its ask. */
    private static void eachOfThemIsATick() {
        Run r = new Run(1, 0);
        r.set(0, 1);
        r.set(1, 1);
        r.manyRows(300);
        Due.due("tick(299)", r.tick(299), 299);
        Due.due("told(2)", r.told(2), 299);
        Due.due("tick(1)", r.tick(1), 300);
        Due.due("told(2)", r.told(2), 300);
        Due.due("out(0, 2)", r.out(0, 2), 1);
        Due.due("out(298, 2)", r.out(298, 2), 299);
        Due.due("out(299, 2)", r.out(299, 2), 300);
    }

    private static void lessThanNoneAreRefused() {
        int[] given = {-1, -2, -1000, Integer.MIN_VALUE};
        for (int n : given) {
            Refused.none("tick(" + n + ")", Refused::busy, r -> r.tick(n));
        }
    }

    private static void moreThanAThousandAreRefused() {
        int[] given = {1001, 1002, 1000000, 1000001, Integer.MAX_VALUE};
        for (int n : given) {
            Refused.none("tick(" + n + ")", Refused::busy, r -> r.tick(n));
        }
    }

    /** 512 calls do not come so far: this alone is more than is promised, but the document names it. */
    private static void nowMayBe1000000ButNotAbove() {
        OutsideAsks x = new OutsideAsks(1, 0);
        for (int i = 0; i < 999; i++) {
            x.tick(1000);
        }
        Due.due("tick(999) at 999000", x.tick(999), 999999);
        x.row(1, 1);
        Due.due("tick(1000) at 999999", x.tick(1000), -1);
        Due.due("tick(2) at 999999", x.tick(2), -1);
        Due.due("told(0)", x.told(0), 999999);
        Due.due("told(11): no TICK has passed", x.told(11), 1);
        Due.due("tick(1) at 999999", x.tick(1), 1000000);
        Due.due("tick(1) at 1000000", x.tick(1), -1);
        Due.due("tick(1000) at 1000000", x.tick(1000), -1);
        Due.due("tick(0) at 1000000", x.tick(0), 1000000);
        Due.due("serve(0) later", x.serve(0), 1);
        Due.due("arrive(0) later", x.arrive(0), 1);
        Due.due("out(0, 2) later", x.out(0, 2), 1000000);
    }
}
