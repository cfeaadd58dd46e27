/** Promise 4: mark. */
public final class Promise04MarkTest {
    private static final String HERE = "Promise 4";

    public static void main(String[] args) {
        all();
        Due.end();
    }

    static void all() {
        Sentences.test(HERE, "A MARK comes: its number; FULL.", Promise04MarkTest::itsNumber);
        Sentences.test(HERE, "A MARK comes: its number; FULL.", Promise04MarkTest::the300thHasItsNumber);
        Sentences.test(HERE, "A MARK comes: its number; FULL.", Promise04MarkTest::the301stIsFullAndChangesNothing);
    }

    private static void itsNumber() {
        Run r = new Run(2, 1);
        Due.due("mark", r.mark(), 0);
        Due.due("mark", r.mark(), 1);
        Due.due("row", r.row(1, 1), 2);
        Due.due("mark", r.mark(), 3);
        Due.dueAll("marks", r.marks(), "1 1 0 1");
    }

    private static void the300thHasItsNumber() {
        Run r = Run.with(1, 1, 1);
        r.manyMarks(298);
        Due.due("the 300th item", r.mark(), 299);
        Due.due("item(299, 3)", r.item(299, 3), 1);
        r.answer(0);
        Due.due("told(2)", r.told(2), 300);
        Due.due("out(299, 0)", r.out(299, 0), 299);
    }

    private static void the301stIsFullAndChangesNothing() {
        Refused.full("mark()", Refused::fullOfItems, Run::mark);
        Run r = new Run(1, 0);
        r.manyMarks(300);
        Due.due("mark", r.mark(), -4);
        Due.due("mark again", r.mark(), -4);
        Due.due("told(1)", r.told(1), 300);
        Due.due("told(2)", r.told(2), 300);
        Due.due("out(300, 0)", r.out(300, 0), -1);
    }
}
