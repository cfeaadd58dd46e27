import java.util.List;
import java.util.function.Supplier;
import java.util.function.ToLongFunction;

/** Refused calls: what they answer, and that nothing else can be seen of them, then or later. */
final class Refused {
    private static final long[] KEYS = {0, 1, 2, 3, 4, 5, 6, 7, 8, 9, 50};

    /** They come to each thing that a call can change: settings, items, lines, service, what is kept or saved. */
    private static final List<ToLongFunction<Run>> LATER = List.of(
        r -> r.row(1, 5), r -> r.row(50, 6), r -> r.mark(), r -> r.serve(0), r -> r.arrive(0), r -> r.twice(0, 0),
        r -> r.refuse(0, 1), r -> r.arrive(0), r -> r.serve(0), r -> r.twice(1, 0), r -> r.lose(1, 0), r -> r.tick(1),
        r -> r.tick(4), r -> r.arrive(0), r -> r.lose(0, 0), r -> r.refuse(0, 2), r -> r.arrive(0), r -> r.tick(10),
        r -> r.restart(), r -> r.serve(0), r -> r.arrive(0), r -> r.tick(1), r -> r.row(2, 7), r -> r.tick(40),
        r -> r.save(), r -> r.row(1, 9), r -> r.restart(), r -> r.set(0, 1), r -> r.set(1, 1), r -> r.set(2, 1),
        r -> r.set(3, 0), r -> r.set(4, 0), r -> r.set(5, 0), r -> r.set(6, 0), r -> r.set(7, 0), r -> r.tick(3));

    private Refused() {
    }

    /** The call answers so, and later calls answer as if it had not been. */
    static void call(String name, Supplier<Run> made, ToLongFunction<Run> call, long answer) {
        Run with = made.get();
        Run without = made.get();
        Due.due(name, call.applyAsLong(with), answer);
        Due.dueAll("all that can be read behind " + name, with.whole(KEYS), without.whole(KEYS));
        for (int i = 0; i < LATER.size(); i++) {
            Due.due("later call " + i + " behind " + name, LATER.get(i).applyAsLong(with), LATER.get(i).applyAsLong(without));
            if (i % 9 == 8) {
                Due.dueAll("all that can be read later behind " + name, with.whole(KEYS), without.whole(KEYS));
            }
        }
        Due.dueAll("all that can be read at last behind " + name, with.whole(KEYS), without.whole(KEYS));
    }

    static void none(String name, Supplier<Run> made, ToLongFunction<Run> call) {
        call(name, made, call, -1);
    }

    static void full(String name, Supplier<Run> made, ToLongFunction<Run> call) {
        call(name, made, call, -4);
    }

    /** Some of everything: rows in each state, a mark, a queue, both lines, kept answers, an older save. */
    static Run busy() {
        Run r = new Run(4, 0);
        r.set(0, 6);
        r.set(1, 3);
        r.set(2, 3);
        r.set(3, 8);
        r.set(4, 1);
        r.set(6, 2);
        r.rows(1, 2, 3, 4, 5);
        r.tick(1);
        r.answer(0);
        r.save();
        r.mark();
        r.rows(6, 7, 8);
        r.tick(1);
        r.answer(2);
        r.serve(0);
        r.refuse(0, 3);
        r.set(2, 1);
        r.tick(6);
        return r;
    }

    static Run fresh() {
        return new Run(2, 1);
    }

    /** 300 items, of which some are gone. */
    static Run fullOfItems() {
        Run r = new Run(3, 1);
        r.set(3, 20);
        r.rows(1, 2, 3, 4);
        r.save();
        r.manyRows(5);
        r.restart();
        r.answer(0);
        r.manyMarks(290);
        r.row(9, 900);
        return r;
    }

    /** 100 asks and 100 answers under way. */
    static Run fullLines() {
        Run r = new Run(3, 0);
        r.rows(1, 2, 3, 4);
        r.refuse(1, 2);
        r.serve(1);
        r.fill(1, 100);
        r.fill(0, 100);
        return r;
    }
}
