/** Promises 9 (lose), 10 (twice) and 11 (under). */
public final class LinesTest {
    private static final int[] WRONG_LINES = {-1, 2, Integer.MIN_VALUE, Integer.MAX_VALUE};

    public static void main(String[] args) {
        Due.about("promise 9");
        loseAnAsk();
        loseAnAnswer();
        Due.about("promise 10");
        askTwice();
        answerTwice();
        aFullLine();
        Due.about("promise 11");
        underWay();
        Due.about("promises 9, 10 and 11");
        wrongPlaces();
        asksOnAFullLineAreLost();
        Due.end();
    }

    private static void loseAnAsk() {
        OutsideAsks x = Ask.with(3, 1, 1, 2, 3);
        Due.due("lose(0, 1)", x.lose(0, 1), 2);
        Due.dueAll("asks", Ask.line(x, 0), "0 2");
        Due.due("lose(0, 1)", x.lose(0, 1), 1);
        Due.due("lose(0, 0)", x.lose(0, 0), 0);
        Due.due("lose(0, 0)", x.lose(0, 0), -1);
        Due.due("told(4)", x.told(4), 3);
        Due.due("told(10)", x.told(10), 3);
    }

    private static void loseAnAnswer() {
        OutsideAsks x = Ask.with(3, 1, 1, 2, 3);
        x.serve(2);
        x.refuse(1, 2);
        x.serve(0);
        Due.due("lose(1, 0)", x.lose(1, 0), 2);
        Due.dueAll("answers", Ask.line(x, 1), "1 0");
        Due.due("arrive(0)", x.arrive(0), 1);
        Due.due("value(1): its cause went with it", x.value(1), 2);
        Due.due("arrive(0)", x.arrive(0), 1);
        Due.due("value(0): its value went with it", x.value(0), 101);
        Due.due("lose(1, 0)", x.lose(1, 0), -1);
    }

    private static void askTwice() {
        OutsideAsks x = Ask.with(3, 1, 1, 2, 3);
        Due.due("twice(0, 1)", x.twice(0, 1), 4);
        Due.dueAll("asks", Ask.line(x, 0), "0 1 2 1");
        Due.due("twice(0, 3)", x.twice(0, 3), 5);
        Due.dueAll("asks", Ask.line(x, 0), "0 1 2 1 1");
        Due.due("told(10)", x.told(10), 3);
        Due.due("told(11)", x.told(11), 3);
        Due.due("item(1, 2)", x.item(1, 2), 1);
    }

    private static void answerTwice() {
        OutsideAsks x = Ask.with(2, 1, 1, 2);
        x.refuse(0, 3);
        x.serve(0);
        Due.due("twice(1, 0)", x.twice(1, 0), 3);
        Due.due("twice(1, 1)", x.twice(1, 1), 4);
        Due.dueAll("answers", Ask.line(x, 1), "0 1 0 1");
        Due.due("arrive(3)", x.arrive(3), 1);
        Due.due("value(1)", x.value(1), 201);
        Due.due("arrive(2)", x.arrive(2), 1);
        Due.due("item(0, 1)", x.item(0, 1), 2);
        Due.due("value(0)", x.value(0), 3);
        Due.due("arrive(1)", x.arrive(1), 0);
        Due.due("arrive(0)", x.arrive(0), 0);
    }

    private static void aFullLine() {
        for (int line = 0; line <= 1; line++) {
            OutsideAsks x = Ask.with(1, 1, 1);
            if (line == 1) {
                x.serve(0);
            }
            for (int n = 2; n <= 100; n++) {
                Due.due("twice(" + line + ", 0)", x.twice(line, 0), n);
            }
            Due.due("twice on a full line", x.twice(line, 99), -4);
            Due.due("twice of none on a full line", x.twice(line, 100), -1);
            Due.due("told", x.told(7 + line), 100);
            Due.due("lose", x.lose(line, 99), 99);
            Due.due("twice", x.twice(line, 98), 100);
        }
    }

    private static void underWay() {
        OutsideAsks x = Ask.with(3, 1, 1, 2, 3);
        x.serve(1);
        Due.due("under(0, 0)", x.under(0, 0), 0);
        Due.due("under(0, 1)", x.under(0, 1), 2);
        Due.due("under(1, 0)", x.under(1, 0), 1);
        x.restart();
        Due.due("under(0, 1) of a gone row", x.under(0, 1), 2);
        Due.due("under(1, 0) of a gone row", x.under(1, 0), 1);
    }

    private static void wrongPlaces() {
        OutsideAsks x = Ask.with(2, 1, 1, 2, 3);
        x.serve(0);
        String before = Ask.whole(x, 1, 2);
        int[] wrong = {-1, 1, 100, Integer.MIN_VALUE, Integer.MAX_VALUE};
        for (int line = 0; line <= 1; line++) {
            for (int k : wrong) {
                Due.due("lose(" + line + ", " + k + ")", x.lose(line, k), -1);
                Due.due("twice(" + line + ", " + k + ")", x.twice(line, k), -1);
                Due.due("under(" + line + ", " + k + ")", x.under(line, k), -1);
            }
        }
        for (int line : WRONG_LINES) {
            Due.due("lose(" + line + ", 0)", x.lose(line, 0), -1);
            Due.due("twice(" + line + ", 0)", x.twice(line, 0), -1);
            Due.due("under(" + line + ", 0)", x.under(line, 0), -1);
        }
        Due.dueAll("after refused calls", Ask.whole(x, 1, 2), before);
    }

    private static void asksOnAFullLineAreLost() {
        OutsideAsks x = Ask.with(3, 1, 1);
        for (int n = 2; n <= 99; n++) {
            x.twice(0, 0);
        }
        Ask.rows(x, 2, 3);
        Due.due("told(7)", x.told(7), 100);
        Due.due("under(0, 99)", x.under(0, 99), 1);
        Due.due("told(10) with the lost one", x.told(10), 3);
        Due.due("told(11) with the lost one", x.told(11), 3);
        Due.due("told(6)", x.told(6), 0);
        Due.due("item(2, 0)", x.item(2, 0), 1);
        x.lose(0, 0);
        x.tick(9);
        Due.due("item(2, 2)", x.item(2, 2), 1);
        x.tick(1);
        Due.due("item(2, 2) when the lost one was due", x.item(2, 2), 2);
    }
}
