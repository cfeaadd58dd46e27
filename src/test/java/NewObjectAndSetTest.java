/** Promises 1 (a new object) and 2 (set). */
public final class NewObjectAndSetTest {
    private static final int[][] SETTINGS = {
        // first, least, greatest
        {10, 1, 100}, {2, 1, 5}, {20, 1, 20}, {0, 0, 100}, {0, 0, 2}, {0, 0, 2}, {0, 0, 2}, {1, 0, 1}};

    public static void main(String[] args) {
        Due.about("promise 1");
        mostIsTheNearest();
        oddIsOrdered();
        nothingIsThereAtFirst();
        Due.about("promise 2");
        eachSettingHasItsRange();
        wrongSettingsChangeNothing();
        settingsActAtOnce();
        whatIsUnderWayIsAsItWas();
        rulesAreThoseOfTheirCauses();
        Due.end();
    }

    private static void mostIsTheNearest() {
        int[][] due = {{Integer.MIN_VALUE, 1}, {-1, 1}, {0, 1}, {1, 1}, {2, 2}, {15, 15}, {16, 16}, {17, 16},
            {Integer.MAX_VALUE, 16}};
        for (int[] d : due) {
            OutsideAsks x = new OutsideAsks(d[0], 0);
            for (int i = 0; i < 20; i++) {
                x.row(i, 0);
            }
            Due.due("told(4) with most " + d[0], x.told(4), d[1]);
            Due.due("told(3) with most " + d[0], x.told(3), 20 - d[1]);
        }
    }

    private static void oddIsOrdered() {
        int[] orders = {1, 3, -1, -3, Integer.MAX_VALUE, 0, 2, -2, 4, Integer.MIN_VALUE};
        for (int order : orders) {
            OutsideAsks x = Ask.with(2, order, 1, 2);
            Ask.answer(x, 1);
            Due.due("told(2) with order " + order, x.told(2), order % 2 != 0 ? 0 : 1);
        }
    }

    private static void nothingIsThereAtFirst() {
        OutsideAsks x = new OutsideAsks(3, 1);
        for (int what = 0; what <= 12; what++) {
            Due.due("told(" + what + ")", x.told(what), 0);
        }
        Due.due("count(0)", x.count(0), 0);
        Due.due("kept(0)", x.kept(0), -1);
        Due.due("under(0, 0)", x.under(0, 0), -1);
        Due.due("item(0, 0)", x.item(0, 0), -1);
    }

    private static void eachSettingHasItsRange() {
        OutsideAsks x = new OutsideAsks(1, 0);
        for (int what = 0; what < SETTINGS.length; what++) {
            int[] s = SETTINGS[what];
            String call = "set(" + what + ", ";
            Due.due(call + "below)", x.set(what, s[1] - 1), -1);
            Due.due(call + "above)", x.set(what, s[2] + 1), -1);
            Due.due(call + "far below)", x.set(what, Integer.MIN_VALUE), -1);
            Due.due(call + "far above)", x.set(what, Integer.MAX_VALUE), -1);
            Due.due(call + "least)", x.set(what, s[1]), s[0]);
            Due.due(call + "greatest)", x.set(what, s[2]), s[1]);
            Due.due(call + "greatest again)", x.set(what, s[2]), s[2]);
            Due.due(call + "least again)", x.set(what, s[1]), s[2]);
        }
    }

    private static void wrongSettingsChangeNothing() {
        OutsideAsks x = Ask.with(2, 1, 1, 2, 3);
        String before = Ask.whole(x, 1);
        int[] whats = {-1, 8, 9, Integer.MIN_VALUE, Integer.MAX_VALUE};
        for (int what : whats) {
            Due.due("set(" + what + ", 1)", x.set(what, 1), -1);
        }
        Due.dueAll("after refused set", Ask.whole(x, 1), before);
    }

    private static void settingsActAtOnce() {
        OutsideAsks x = new OutsideAsks(5, 1);
        x.set(2, 1);
        Ask.rows(x, 1, 2, 3, 4);
        Due.dueAll("asks with RATE 1", Ask.line(x, 0), "0");
        Due.due("set(2, 3)", x.set(2, 3), 1);
        Due.dueAll("asks with RATE 3", Ask.line(x, 0), "0 1 2");
        Due.due("set(2, 2)", x.set(2, 2), 3);
        Due.due("told(11)", x.told(11), 3);
        Due.due("told(6)", x.told(6), 1);
        x.tick(1);
        Due.due("told(11) in the next tick", x.told(11), 1);
    }

    private static void whatIsUnderWayIsAsItWas() {
        OutsideAsks x = Ask.with(1, 1, 1);
        x.set(0, 3);
        x.tick(9);
        Due.due("item(0, 2) before DUE", x.item(0, 2), 1);
        x.tick(1);
        Due.due("item(0, 2) when DUE", x.item(0, 2), 2);
        x.set(1, 3);
        x.tick(3);
        Due.due("item(0, 2) by the new WAIT and TRIES", x.item(0, 2), 3);
        x.set(3, 7);
        Ask.answer(x, 0);
        Due.due("kept(1)", x.kept(1), 13 + 7);
        x.set(3, 0);
        Due.due("kept(1) when KEEP is 0", x.kept(1), 13 + 7);
        Due.due("row", x.row(1, 5), 1);
        Due.due("item(1, 1) by what is kept yet", x.item(1, 1), 1);
    }

    private static void rulesAreThoseOfTheirCauses() {
        for (int cause = 1; cause <= 3; cause++) {
            OutsideAsks x = Ask.with(3, 1, 1, 2, 3);
            x.set(3 + cause, 2);
            for (int other = 1; other <= 3; other++) {
                Ask.cause(x, other - 1, other);
                int due = other == cause ? 4 : 2;
                Due.due("result of cause " + other + " with rule of " + cause, x.item(other - 1, 1), due);
            }
        }
    }
}
