/** Promise 12 (out), and the ways in which items go out. */
public final class OutTest {
    public static void main(String[] args) {
        Due.about("promise 12");
        inOrder();
        asTheyCome();
        neverAcrossAMark();
        aMarkWaitsForAllAhead();
        marksInOrder();
        goneOnesCountAsOut();
        ticksAndResults();
        wrongPlaces();
        Due.end();
    }

    private static void inOrder() {
        OutsideAsks x = Ask.with(4, 1, 1, 2, 3, 4);
        Ask.answer(x, 2);
        Ask.answer(x, 1);
        Due.dueAll("outs", Ask.outs(x, 0), "");
        Due.due("told(5)", x.told(5), 2);
        Ask.answer(x, 0);
        Due.dueAll("outs", Ask.outs(x, 0), "0 1 2");
        Ask.answer(x, 3);
        Due.dueAll("outs", Ask.outs(x, 0), "0 1 2 3");
    }

    private static void asTheyCome() {
        OutsideAsks x = Ask.with(4, 0, 1, 2, 3, 4);
        Ask.answer(x, 2);
        Ask.answer(x, 0);
        Ask.answer(x, 3);
        Due.dueAll("outs", Ask.outs(x, 0), "2 0 3");
        Due.due("told(5)", x.told(5), 0);
    }

    private static void neverAcrossAMark() {
        OutsideAsks x = Ask.with(6, 0, 1, 2);
        x.mark();
        Ask.rows(x, 3, 4);
        x.mark();
        Ask.rows(x, 5);
        Ask.answer(x, 6);
        Ask.answer(x, 4);
        Ask.answer(x, 1);
        Due.dueAll("outs", Ask.outs(x, 0), "1");
        Ask.answer(x, 0);
        Due.dueAll("outs: least number first", Ask.outs(x, 0), "1 0 2 4");
        Ask.answer(x, 3);
        Due.dueAll("outs", Ask.outs(x, 0), "1 0 2 4 3 5 6");
    }

    private static void aMarkWaitsForAllAhead() {
        OutsideAsks x = Ask.with(1, 0, 1, 2);
        x.mark();
        Ask.answer(x, 0);
        Due.dueAll("states: one ahead is not out", Ask.items(x, 0), "3 1 2");
        x.tick(30);
        Due.dueAll("states", Ask.items(x, 0), "3 3 3");
        Due.dueAll("outs", Ask.outs(x, 0), "0 1 2");
    }

    private static void marksInOrder() {
        OutsideAsks x = new OutsideAsks(4, 1);
        x.mark();
        Ask.rows(x, 1);
        x.mark();
        Ask.rows(x, 2);
        Due.dueAll("outs", Ask.outs(x, 0), "0");
        Ask.answer(x, 3);
        Ask.answer(x, 1);
        Due.dueAll("outs", Ask.outs(x, 0), "0 1 2 3");
        Due.dueAll("results", Ask.outs(x, 1), "5 0 5 0");
    }

    private static void goneOnesCountAsOut() {
        for (int order = 0; order <= 1; order++) {
            OutsideAsks x = Ask.with(2, order, 1, 2);
            x.mark();
            x.restart();
            Due.due("mark", x.mark(), 3);
            Due.dueAll("outs", Ask.outs(x, 0), "3");
            Ask.rows(x, 5);
            Ask.answer(x, 4);
            Due.dueAll("outs", Ask.outs(x, 0), "3 4");
        }
    }

    private static void ticksAndResults() {
        OutsideAsks x = Ask.with(3, 1, 1, 2, 3);
        x.set(5, 2);
        Ask.cause(x, 1, 2);
        x.tick(2);
        Ask.cause(x, 0, 1);
        Due.dueAll("results", Ask.outs(x, 1), "2 4");
        Due.dueAll("ticks", Ask.outs(x, 2), "2 2");
        x.tick(50);
        Due.dueAll("results", Ask.outs(x, 1), "2 4 3");
        Due.dueAll("ticks", Ask.outs(x, 2), "2 2 20");
        Due.due("out(2, 0)", x.out(2, 0), 2);
    }

    private static void wrongPlaces() {
        OutsideAsks x = Ask.with(2, 0, 1, 2);
        Due.due("out(0, 0) with none", x.out(0, 0), -1);
        Ask.answer(x, 1);
        int[] wrong = {-1, 1, 299, 300, Integer.MIN_VALUE, Integer.MAX_VALUE};
        for (int k : wrong) {
            for (int what = 0; what <= 2; what++) {
                Due.due("out(" + k + ", " + what + ")", x.out(k, what), -1);
            }
        }
        int[] wrongWhats = {-1, 3, Integer.MIN_VALUE, Integer.MAX_VALUE};
        for (int what : wrongWhats) {
            Due.due("out(0, " + what + ")", x.out(0, what), -1);
        }
        Due.due("out(0, 0)", x.out(0, 0), 1);
    }
}
