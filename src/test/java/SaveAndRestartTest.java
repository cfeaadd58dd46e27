/** Promises 17 (save) and 18 (restart). */
public final class SaveAndRestartTest {
    public static void main(String[] args) {
        Due.about("promise 17");
        howManyAreNotOut();
        savingChangesNothingElse();
        Due.about("promise 18");
        withoutASaveAllIsGone();
        whatWentOutLaterIsTakenBack();
        workingOnesAreAskedAgain();
        waitingOnesWaitAgain();
        settledOnesStaySettled();
        theSaveStays();
        goneForEver();
        whatStays();
        theRateOfTheTickStays();
        Due.end();
    }

    private static void howManyAreNotOut() {
        OutsideAsks x = new OutsideAsks(2, 1);
        Due.due("save() of nothing", x.save(), 0);
        Ask.rows(x, 1, 2, 3);
        x.mark();
        Due.due("save()", x.save(), 4);
        Ask.answer(x, 1);
        Due.due("save() with a settled one", x.save(), 4);
        Ask.answer(x, 0);
        Due.due("save() with two out", x.save(), 2);
        Ask.rows(x, 4);
        x.restart();
        Due.due("save() with a gone one", x.save(), 2);
    }

    private static void savingChangesNothingElse() {
        OutsideAsks x = Ask.with(2, 1, 1, 2, 3);
        x.set(3, 5);
        Ask.answer(x, 0);
        String before = Ask.whole(x, 1, 2, 3);
        x.save();
        Due.dueAll("after save", Ask.whole(x, 1, 2, 3), before);
    }

    private static void withoutASaveAllIsGone() {
        OutsideAsks x = Ask.with(2, 1, 1, 2, 3);
        x.mark();
        Ask.answer(x, 0);
        Due.due("restart()", x.restart(), 0);
        Due.dueAll("states", Ask.items(x, 0), "4 4 4 4");
        Due.dueAll("told", Ask.told(x), "0 4 0 0 0 0 0 2 0 0 3 3 1");
        x.tick(50);
        Due.dueAll("states when they would be due", Ask.items(x, 0), "4 4 4 4");
        Due.dueAll("told", Ask.told(x), "50 4 0 0 0 0 0 2 0 0 3 0 1");
        OutsideAsks y = new OutsideAsks(1, 1);
        Due.due("restart() of a new one", y.restart(), 0);
        Due.due("told(12)", y.told(12), 1);
    }

    private static void whatWentOutLaterIsTakenBack() {
        OutsideAsks x = Ask.with(3, 0, 1, 2, 3);
        Ask.answer(x, 1);
        x.tick(1);
        x.save();
        x.tick(2);
        Ask.answer(x, 0);
        Due.dueAll("outs", Ask.outs(x, 0), "1 0");
        Due.due("restart()", x.restart(), 2);
        Due.dueAll("outs", Ask.outs(x, 0), "1");
        Due.dueAll("ticks", Ask.outs(x, 2), "0");
        Due.dueAll("states", Ask.items(x, 0), "1 3 1");
        Due.dueAll("results", Ask.items(x, 1), "-1 0 -1");
        Due.dueAll("values", Ask.values(x), "0 201 0");
        Due.due("out(1, 0)", x.out(1, 0), -1);
        Ask.answer(x, 2);
        Due.dueAll("outs", Ask.outs(x, 0), "1 2");
        Due.dueAll("ticks", Ask.outs(x, 2), "0 3");
    }

    private static void workingOnesAreAskedAgain() {
        OutsideAsks x = new OutsideAsks(3, 0);
        x.set(2, 1);
        x.set(0, 2);
        x.set(1, 3);
        Ask.rows(x, 1, 2, 3);
        x.tick(2);
        Due.dueAll("tries", Ask.items(x, 2), "2 1 1");
        Due.dueAll("queued: row 0 behind row 2", Ask.items(x, 4), "1 0 0");
        x.save();
        x.tick(5);
        Due.due("restart()", x.restart(), 3);
        Due.dueAll("tries: one more than then", Ask.items(x, 2), "3 2 2");
        Due.dueAll("queued", Ask.items(x, 4), "1 1 1");
        Ask.loseAll(x, 0);
        x.tick(1);
        x.tick(1);
        Due.dueAll("asks by numbers", Ask.line(x, 0), "0 1");
        tryMoreThanTries();
    }

    private static void tryMoreThanTries() {
        OutsideAsks x = Ask.with(1, 0, 1);
        x.tick(10);
        x.save();
        x.restart();
        Due.due("item(0, 2) beyond TRIES", x.item(0, 2), 3);
        x.save();
        x.restart();
        Due.due("item(0, 2) beyond TRIES", x.item(0, 2), 4);
        x.tick(9);
        Due.due("item(0, 0)", x.item(0, 0), 1);
        x.tick(1);
        Due.due("item(0, 1)", x.item(0, 1), 3);
    }

    private static void waitingOnesWaitAgain() {
        OutsideAsks x = Ask.with(1, 0, 1, 2, 3);
        x.save();
        Ask.answer(x, 0);
        Ask.answer(x, 1);
        Due.due("restart()", x.restart(), 1);
        Due.dueAll("states", Ask.items(x, 0), "1 0 0");
        Due.dueAll("tries", Ask.items(x, 2), "2 0 0");
        Due.dueAll("asks", Ask.line(x, 0), "2 0");
        Due.due("told(3)", x.told(3), 2);
        Ask.answer(x, 0);
        Due.dueAll("tries", Ask.items(x, 2), "2 1 0");
        Due.due("count(1)", x.count(1), 1);
    }

    private static void settledOnesStaySettled() {
        OutsideAsks x = Ask.with(3, 1, 1, 2, 3);
        x.mark();
        Ask.answer(x, 1);
        Ask.cause(x, 2, 2);
        x.save();
        Ask.answer(x, 0);
        Due.due("told(2)", x.told(2), 4);
        Due.due("restart()", x.restart(), 1);
        Due.dueAll("states", Ask.items(x, 0), "1 2 2 2");
        Due.dueAll("results", Ask.items(x, 1), "-1 0 2 5");
        Due.dueAll("values", Ask.values(x), "0 201 2 0");
        Due.due("told(5)", x.told(5), 3);
        x.tick(2);
        Ask.answer(x, 0);
        Due.dueAll("outs", Ask.outs(x, 0), "0 1 2 3");
        Due.dueAll("ticks", Ask.outs(x, 2), "2 2 2 2");
    }

    private static void theSaveStays() {
        OutsideAsks x = Ask.with(2, 0, 1, 2);
        x.save();
        for (int i = 1; i <= 3; i++) {
            Due.due("restart()", x.restart(), 2);
            Due.dueAll("tries: those that were saved and one", Ask.items(x, 2).substring(0, 3), "2 2");
            Due.due("told(12)", x.told(12), i);
            Ask.rows(x, 9);
            Ask.answer(x, 0);
            Ask.answer(x, 1);
            x.tick(1);
        }
        Due.dueAll("states", Ask.items(x, 0), "3 3 4 4 1");
    }

    private static void goneForEver() {
        OutsideAsks x = Ask.with(2, 1, 1);
        x.save();
        Ask.rows(x, 2);
        x.mark();
        x.restart();
        Due.due("save()", x.save(), 1);
        Due.due("row", x.row(3, 300), 3);
        Due.due("save()", x.save(), 2);
        x.restart();
        Due.dueAll("states", Ask.items(x, 0), "1 4 4 1");
        Ask.answer(x, 3);
        Ask.answer(x, 0);
        Due.dueAll("outs", Ask.outs(x, 0), "0 3");
        x.restart();
        Due.dueAll("states", Ask.items(x, 0), "1 4 4 1");
    }

    private static void whatStays() {
        OutsideAsks x = Ask.with(2, 1, 1, 2);
        x.set(0, 7);
        x.set(1, 4);
        x.set(3, 9);
        x.set(7, 0);
        x.tick(3);
        x.serve(0);
        x.arrive(0);
        x.refuse(0, 3);
        x.restart();
        Due.due("told(0)", x.told(0), 3);
        Due.due("told(9)", x.told(9), 0);
        Due.dueAll("answers", Ask.line(x, 1), "1");
        Due.due("count(1)", x.count(1), 1);
        Due.due("set(0, 1)", x.set(0, 1), 7);
        Due.due("set(1, 1)", x.set(1, 1), 4);
        Due.due("set(3, 1)", x.set(3, 1), 9);
        Due.due("set(7, 1)", x.set(7, 1), 0);
    }

    private static void theRateOfTheTickStays() {
        OutsideAsks x = new OutsideAsks(2, 1);
        x.set(2, 3);
        Ask.rows(x, 1, 2);
        x.save();
        Due.due("restart()", x.restart(), 2);
        Due.dueAll("asks", Ask.line(x, 0), "0 1 0");
        Due.due("told(11)", x.told(11), 3);
        Due.due("told(6)", x.told(6), 1);
        x.tick(1);
        Due.dueAll("asks", Ask.line(x, 0), "0 1 0 1");
        Due.due("told(10)", x.told(10), 4);
    }
}
