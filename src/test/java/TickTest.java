/** Promise 5 (tick). */
public final class TickTest {
    public static void main(String[] args) {
        Due.about("promise 5");
        howMany();
        nowHasAnEnd();
        dueOnesAreTriedAgainByNumbers();
        withoutATryLeftItIsInVain();
        theQueueIsNotDue();
        rateIsOfEachTick();
        aFreePlaceIsTakenInTheSameTick();
        itGoesOnBehindEachTick();
        Due.end();
    }

    private static void howMany() {
        OutsideAsks x = new OutsideAsks(1, 1);
        Due.due("tick(0)", x.tick(0), 0);
        Due.due("tick(1)", x.tick(1), 1);
        Due.due("tick(1000)", x.tick(1000), 1001);
        int[] wrong = {-1, 1001, Integer.MIN_VALUE, Integer.MAX_VALUE};
        for (int n : wrong) {
            Due.due("tick(" + n + ")", x.tick(n), -1);
        }
        Due.due("told(0)", x.told(0), 1001);
        Due.due("tick(7)", x.tick(7), 1008);
        OutsideAsks y = new OutsideAsks(1, 1);
        for (int i = 0; i < 500; i++) {
            y.tick(1000);
        }
        Due.due("told(0)", y.told(0), 500000);
    }

    /** 512 calls cannot come so far, so this is more than is promised; but the document names it. */
    private static void nowHasAnEnd() {
        OutsideAsks x = new OutsideAsks(1, 0);
        for (int i = 0; i < 999; i++) {
            x.tick(1000);
        }
        Due.due("tick(999)", x.tick(999), 999999);
        Due.due("tick(2)", x.tick(2), -1);
        Due.due("tick(1)", x.tick(1), 1000000);
        Due.due("tick(1)", x.tick(1), -1);
        Due.due("tick(0)", x.tick(0), 1000000);
    }

    private static void dueOnesAreTriedAgainByNumbers() {
        OutsideAsks x = new OutsideAsks(3, 0);
        x.set(0, 5);
        x.set(2, 1);
        Ask.rows(x, 1, 2, 3);
        x.set(0, 4);
        x.tick(1);
        x.set(0, 3);
        x.set(2, 20);
        Ask.loseAll(x, 0);
        x.tick(3);
        Due.dueAll("not due yet", Ask.line(x, 0), "2");
        Due.dueAll("tries", Ask.items(x, 2), "1 1 2");
        x.tick(1);
        Due.dueAll("both due at 5", Ask.line(x, 0), "2 0 1");
        Due.dueAll("tries", Ask.items(x, 2), "2 2 2");
        Due.due("told(11)", x.told(11), 2);
    }

    private static void withoutATryLeftItIsInVain() {
        OutsideAsks x = Ask.with(1, 1, 9);
        x.tick(10);
        Due.due("item(0, 2)", x.item(0, 2), 2);
        Due.due("told(7)", x.told(7), 2);
        x.tick(9);
        Due.due("item(0, 0)", x.item(0, 0), 1);
        x.tick(1);
        Due.due("item(0, 0)", x.item(0, 0), 3);
        Due.due("item(0, 1)", x.item(0, 1), 3);
        Due.due("item(0, 2)", x.item(0, 2), 2);
        Due.due("value(0)", x.value(0), 0);
        Due.due("out(0, 2)", x.out(0, 2), 20);
        Due.due("told(7)", x.told(7), 2);
        OutsideAsks y = Ask.with(1, 1, 9);
        y.tick(10);
        y.set(1, 1);
        y.tick(10);
        Due.due("in vain with fewer TRIES than it has", y.item(0, 1), 3);
    }

    private static void theQueueIsNotDue() {
        OutsideAsks x = new OutsideAsks(2, 1);
        x.set(0, 1);
        x.set(2, 1);
        x.set(1, 5);
        Ask.rows(x, 1, 2);
        x.tick(1);
        Due.dueAll("row 1 was in the queue before", Ask.line(x, 0), "0 1");
        Due.dueAll("tries", Ask.items(x, 2), "2 1");
        x.tick(1);
        Due.dueAll("row 0 now", Ask.line(x, 0), "0 1 0");
        Due.dueAll("tries", Ask.items(x, 2), "2 2");
        Due.dueAll("queued", Ask.items(x, 4), "0 1");
    }

    private static void rateIsOfEachTick() {
        OutsideAsks x = new OutsideAsks(16, 1);
        x.set(2, 3);
        for (int i = 0; i < 8; i++) {
            x.row(i, i);
        }
        Due.due("told(7)", x.told(7), 3);
        Due.due("told(11)", x.told(11), 3);
        Due.due("told(6)", x.told(6), 5);
        x.tick(0);
        Due.due("told(7) behind tick(0)", x.told(7), 3);
        x.tick(1);
        Due.due("told(7)", x.told(7), 6);
        x.tick(1);
        Due.due("told(7)", x.told(7), 8);
        Due.due("told(11)", x.told(11), 2);
        x.tick(1);
        Due.due("told(11)", x.told(11), 0);
        Due.dueAll("asks", Ask.line(x, 0), "0 1 2 3 4 5 6 7");
    }

    private static void aFreePlaceIsTakenInTheSameTick() {
        OutsideAsks x = new OutsideAsks(1, 0);
        x.set(0, 2);
        x.set(1, 1);
        Ask.rows(x, 1, 2, 3);
        x.tick(2);
        Due.dueAll("states", Ask.items(x, 0), "3 1 0");
        Due.due("told(11)", x.told(11), 1);
        x.tick(4);
        Due.dueAll("states", Ask.items(x, 0), "3 3 3");
        Due.dueAll("ticks", Ask.outs(x, 2), "2 4 6");
    }

    private static void itGoesOnBehindEachTick() {
        OutsideAsks x = new OutsideAsks(1, 0);
        x.set(0, 1);
        x.set(1, 1);
        for (int i = 0; i < 250; i++) {
            x.row(i, 0);
        }
        Due.due("tick(1000)", x.tick(1000), 1000);
        Due.due("told(2)", x.told(2), 250);
        Due.due("out(0, 2)", x.out(0, 2), 1);
        Due.due("out(249, 2)", x.out(249, 2), 250);
        Due.due("told(7)", x.told(7), 100);
        Due.due("told(10)", x.told(10), 250);
    }
}
