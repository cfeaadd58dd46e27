import java.util.LinkedHashMap;
import java.util.List;
import java.util.Map;
import java.util.function.Supplier;
import java.util.function.ToLongFunction;

/** Terms: NONE and FULL; what is refused changes nothing. */
public final class TermsRefusedTest {
    private static final String HERE = "Terms";
    private static final List<Supplier<Run>> STATES = List.of(
        Refused::fresh, Refused::busy, Refused::fullOfItems, Refused::fullLines, TermsRefusedTest::restarted);

    public static void main(String[] args) {
        all();
        Due.end();
    }

    static void all() {
        Sentences.test(HERE, "NONE (-1) there is no such thing, a number is not as told; FULL (-4).",
            TermsRefusedTest::theirNumbers);
        String nothing = "What is refused changes nothing.";
        Sentences.test(HERE, nothing, TermsRefusedTest::noneChangesNothing);
        Sentences.test(HERE, nothing, TermsRefusedTest::fullChangesNothing);
        Sentences.test(HERE, nothing, TermsRefusedTest::manyRefusedCallsChangeNothing);
        Sentences.test(HERE, nothing, TermsRefusedTest::aRefusedTickLetsNothingBeSent);
        Sentences.test(HERE, nothing, TermsRefusedTest::aRefusedRowIsNotAskedFor);
    }

    private static void theirNumbers() {
        Due.due("NONE", OutsideAsks.NONE, -1);
        Due.due("FULL", OutsideAsks.FULL, -4);
        Due.due("serve(0) of a new object", new Run(1, 1).serve(0), -1);
        Due.due("row beyond 300", Refused.fullOfItems().row(1, 1), -4);
    }

    /** Behind a restart, with rows that are gone, waiting and in the queue. */
    private static Run restarted() {
        Run r = new Run(3, 1);
        r.set(2, 2);
        r.set(3, 40);
        r.rows(1, 2, 3, 4);
        r.answer(1);
        r.save();
        r.rows(5, 6);
        r.mark();
        r.tick(2);
        r.restart();
        return r;
    }

    /** Calls that are NONE in each of the states. */
    private static Map<String, ToLongFunction<Run>> noneAnywhere() {
        Map<String, ToLongFunction<Run>> calls = new LinkedHashMap<>();
        for (int what = 0; what < 8; what++) {
            int setting = what;
            calls.put("set(" + what + ", -1)", r -> r.set(setting, -1));
            calls.put("set(" + what + ", 101)", r -> r.set(setting, 101));
        }
        calls.put("set(-1, 1)", r -> r.set(-1, 1));
        calls.put("set(8, 1)", r -> r.set(8, 1));
        calls.put("tick(-1)", r -> r.tick(-1));
        calls.put("tick(1001)", r -> r.tick(1001));
        calls.put("serve(-1)", r -> r.serve(-1));
        calls.put("serve(100)", r -> r.serve(100));
        calls.put("refuse(-1, 1)", r -> r.refuse(-1, 1));
        calls.put("refuse(100, 1)", r -> r.refuse(100, 1));
        calls.put("refuse(0, 0)", r -> r.refuse(0, 0));
        calls.put("refuse(0, 4)", r -> r.refuse(0, 4));
        calls.put("arrive(-1)", r -> r.arrive(-1));
        calls.put("arrive(100)", r -> r.arrive(100));
        for (int line = -1; line <= 2; line++) {
            int way = line;
            int k = line == 0 || line == 1 ? 100 : 0;
            calls.put("lose(" + line + ", " + k + ")", r -> r.lose(way, k));
            calls.put("twice(" + line + ", " + k + ")", r -> r.twice(way, k));
            calls.put("under(" + line + ", " + k + ")", r -> r.under(way, k));
            calls.put("lose(" + line + ", -1)", r -> r.lose(way, -1));
            calls.put("twice(" + line + ", -1)", r -> r.twice(way, -1));
            calls.put("under(" + line + ", -1)", r -> r.under(way, -1));
        }
        calls.put("out(-1, 0)", r -> r.out(-1, 0));
        calls.put("out(300, 0)", r -> r.out(300, 0));
        calls.put("out(0, 3)", r -> r.out(0, 3));
        calls.put("item(-1, 0)", r -> r.item(-1, 0));
        calls.put("item(300, 0)", r -> r.item(300, 0));
        calls.put("item(0, 5)", r -> r.item(0, 5));
        calls.put("kept(12345)", r -> r.kept(12345));
        calls.put("told(-1)", r -> r.told(-1));
        calls.put("told(13)", r -> r.told(13));
        return calls;
    }

    private static void noneChangesNothing() {
        for (Supplier<Run> state : STATES) {
            noneAnywhere().forEach((name, call) -> Refused.none(name, state, call));
        }
    }

    private static void fullChangesNothing() {
        Refused.full("row(1, 1)", Refused::fullOfItems, r -> r.row(1, 1));
        Refused.full("mark()", Refused::fullOfItems, Run::mark);
        Refused.full("twice(0, 0)", Refused::fullLines, r -> r.twice(0, 0));
        Refused.full("twice(0, 99)", Refused::fullLines, r -> r.twice(0, 99));
        Refused.full("twice(1, 0)", Refused::fullLines, r -> r.twice(1, 0));
        Refused.full("twice(1, 99)", Refused::fullLines, r -> r.twice(1, 99));
    }

    private static void manyRefusedCallsChangeNothing() {
        for (Supplier<Run> state : List.<Supplier<Run>>of(Refused::fresh, Refused::busy, TermsRefusedTest::restarted)) {
            Refused.none("all of them, one behind the other", state, r -> {
                long sum = 0;
                for (ToLongFunction<Run> call : noneAnywhere().values()) {
                    sum += call.applyAsLong(r);
                }
                return sum == -noneAnywhere().size() ? -1 : sum;
            });
        }
    }

    private static void aRefusedTickLetsNothingBeSent() {
        Run r = new Run(2, 1);
        r.set(2, 1);
        r.rows(1, 2);
        Due.due("tick(1001)", r.tick(1001), -1);
        Due.due("tick(-1)", r.tick(-1), -1);
        Due.due("told(11)", r.told(11), 1);
        Due.dueAll("asks", r.asks(), "0");
        Due.due("tick(1)", r.tick(1), 1);
        Due.dueAll("asks", r.asks(), "0 1");
    }

    private static void aRefusedRowIsNotAskedFor() {
        Run r = new Run(2, 0);
        r.manyMarks(299);
        r.row(5, 500);
        Due.due("row", r.row(6, 600), -4);
        Due.due("told(7)", r.told(7), 1);
        Due.due("told(4)", r.told(4), 1);
        r.tick(10);
        Due.due("told(7)", r.told(7), 2);
        Due.due("value(299) later", r.answer(299) == 1 ? r.value(299) : -1, 501);
    }
}
