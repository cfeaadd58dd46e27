import java.util.ArrayList;
import java.util.List;
import java.util.function.IntToLongFunction;
import java.util.function.ToLongFunction;

/**
 * An object of the program, and the calls that it was given. No test gives it more than 512, for
 * what it answers then is free; so a look at it all reads other objects that were given the same.
 */
final class Run {
    static final int MOST_CALLS = 512;
    static final int NONE = OutsideAsks.NONE, FULL = OutsideAsks.FULL;

    private final int most;
    private final int order;
    private final OutsideAsks x;
    private final List<ToLongFunction<OutsideAsks>> calls = new ArrayList<>();
    private OutsideAsks other = null;
    private int othersCalls = 0;
    private int looks = 0;

    Run(int most, int order) {
        this.most = most;
        this.order = order;
        x = new OutsideAsks(most, order);
    }

    /** With a row of each key; its value is 100 times the key. */
    static Run with(int most, int order, int... keys) {
        Run run = new Run(most, order);
        run.rows(keys);
        return run;
    }

    private int call(ToLongFunction<OutsideAsks> call) {
        return (int) longCall(call);
    }

    private long longCall(ToLongFunction<OutsideAsks> call) {
        if (calls.size() == MOST_CALLS) {
            throw new IllegalStateException("a test gives an object more than " + MOST_CALLS + " calls");
        }
        calls.add(call);
        return call.applyAsLong(x);
    }

    int set(int what, int v) {
        return call(o -> o.set(what, v));
    }

    int row(long key, long value) {
        return call(o -> o.row(key, value));
    }

    int mark() {
        return call(o -> o.mark());
    }

    int tick(int n) {
        return call(o -> o.tick(n));
    }

    int serve(int k) {
        return call(o -> o.serve(k));
    }

    int refuse(int k, int cause) {
        return call(o -> o.refuse(k, cause));
    }

    int arrive(int k) {
        return call(o -> o.arrive(k));
    }

    int lose(int line, int k) {
        return call(o -> o.lose(line, k));
    }

    int twice(int line, int k) {
        return call(o -> o.twice(line, k));
    }

    int under(int line, int k) {
        return call(o -> o.under(line, k));
    }

    int out(int k, int what) {
        return call(o -> o.out(k, what));
    }

    long value(int item) {
        return longCall(o -> o.value(item));
    }

    int item(int item, int what) {
        return call(o -> o.item(item, what));
    }

    int count(long key) {
        return call(o -> o.count(key));
    }

    int kept(long key) {
        return call(o -> o.kept(key));
    }

    int save() {
        return call(o -> o.save());
    }

    int restart() {
        return call(o -> o.restart());
    }

    int told(int what) {
        return call(o -> o.told(what));
    }

    int callsGiven() {
        return calls.size();
    }

    /** What it would answer to the question now, without giving it that call. */
    long look(ToLongFunction<OutsideAsks> question) {
        if (other == null || othersCalls != calls.size() || calls.size() + looks == MOST_CALLS) {
            makeOther();
        }
        looks++;
        return question.applyAsLong(other);
    }

    private void makeOther() {
        if (calls.size() == MOST_CALLS) {
            throw new IllegalStateException("no call is left for a look");
        }
        other = new OutsideAsks(most, order);
        for (ToLongFunction<OutsideAsks> call : calls) {
            call.applyAsLong(other);
        }
        othersCalls = calls.size();
        looks = 0;
    }

    private int lookTold(int what) {
        return (int) look(o -> o.told(what));
    }

    private static String inARow(int n, IntToLongFunction each) {
        StringBuilder all = new StringBuilder();
        for (int i = 0; i < n; i++) {
            all.append(i == 0 ? "" : " ").append(each.applyAsLong(i));
        }
        return all.toString();
    }

    private String items(int what) {
        return inARow(lookTold(1), i -> look(o -> o.item(i, what)));
    }

    String states() {
        return items(0);
    }

    String results() {
        return items(1);
    }

    String tries() {
        return items(2);
    }

    String marks() {
        return items(3);
    }

    String queued() {
        return items(4);
    }

    String values() {
        return inARow(lookTold(1), i -> look(o -> o.value(i)));
    }

    private String outs(int what) {
        return inARow(lookTold(2), k -> look(o -> o.out(k, what)));
    }

    String outs() {
        return outs(0);
    }

    String outResults() {
        return outs(1);
    }

    String outTicks() {
        return outs(2);
    }

    String asks() {
        return inARow(lookTold(7), k -> look(o -> o.under(0, k)));
    }

    String answers() {
        return inARow(lookTold(8), k -> look(o -> o.under(1, k)));
    }

    String allTold() {
        return inARow(13, this::lookTold);
    }

    String ends(long... keys) {
        return inARow(keys.length, i -> look(o -> o.kept(keys[i])));
    }

    String counts(long... keys) {
        return inARow(keys.length, i -> look(o -> o.count(keys[i])));
    }

    /** All that can be read. */
    String whole(long... keys) {
        return String.join(" | ", allTold(), states(), results(), tries(), marks(), queued(), values(), outs(),
            outResults(), outTicks(), asks(), answers(), ends(keys), counts(keys));
    }

    void rows(int... keys) {
        for (int key : keys) {
            row(key, 100L * key);
        }
    }

    void manyRows(int n) {
        for (int i = 0; i < n; i++) {
            row(i, 100L * i);
        }
    }

    void manyMarks(int n) {
        for (int i = 0; i < n; i++) {
            mark();
        }
    }

    /** Where the first ask or answer of a row is under way. */
    int place(int line, int row) {
        int size = lookTold(7 + line);
        for (int i = 0; i < size; i++) {
            int k = i;
            if (look(o -> o.under(line, k)) == row) {
                return k;
            }
        }
        return NONE;
    }

    /** The first ask of a row is served, and what comes of that arrives: what arrive() answers. */
    int answer(int row) {
        serve(place(0, row));
        return arrive(lookTold(8) - 1);
    }

    /** The first ask of a row is refused, and that arrives: what arrive() answers. */
    int fail(int row, int cause) {
        refuse(place(0, row), cause);
        return arrive(lookTold(8) - 1);
    }

    void loseAll(int line) {
        for (int n = lookTold(7 + line); n > 0; n--) {
            lose(line, 0);
        }
    }

    /** The first one of a line comes twice again and again, until so many are under way. */
    void fill(int line, int size) {
        for (int n = lookTold(7 + line); n < size; n++) {
            twice(line, 0);
        }
    }

    /** A row of the key comes, is answered, and its answer is kept so long. */
    void keep(long key, int keep) {
        set(3, keep);
        int row = row(key, 0);
        answer(row);
    }
}
