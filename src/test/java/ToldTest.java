/** Promise 19 (told). */
public final class ToldTest {
    public static void main(String[] args) {
        Due.about("promise 19");
        eachTellsItsOwn();
        othersAreNone();
        Due.end();
    }

    private static void eachTellsItsOwn() {
        OutsideAsks x = new OutsideAsks(4, 1);
        x.set(3, 50);
        x.set(2, 2);
        Ask.rows(x, 1, 2, 3, 4, 5, 6);
        x.mark();
        Due.dueAll("told", Ask.told(x), "0 7 0 2 4 1 2 2 0 0 2 2 0");
        x.tick(1);
        Due.dueAll("told", Ask.told(x), "1 7 0 2 4 1 0 4 0 0 4 2 0");
        x.serve(1);
        x.arrive(0);
        Due.dueAll("told", Ask.told(x), "1 7 0 1 4 2 1 3 0 1 4 2 0");
        x.tick(1);
        x.serve(0);
        x.twice(1, 0);
        Due.dueAll("told", Ask.told(x), "2 7 0 1 4 2 0 3 2 1 5 1 0");
        x.arrive(0);
        Due.dueAll("told", Ask.told(x), "2 7 2 0 4 1 0 4 1 2 6 2 0");
        x.save();
        x.row(1, 0);
        x.lose(0, 0);
        Due.dueAll("told", Ask.told(x), "2 8 2 1 4 1 0 3 1 2 6 2 0");
        x.tick(1);
        x.restart();
        Due.dueAll("told", Ask.told(x), "3 8 2 0 4 1 2 5 1 0 8 2 1");
    }

    private static void othersAreNone() {
        OutsideAsks x = Ask.with(4, 1, 1, 2);
        int[] wrong = {-1, 13, 14, Integer.MIN_VALUE, Integer.MAX_VALUE};
        for (int what : wrong) {
            Due.due("told(" + what + ")", x.told(what), -1);
        }
    }
}
