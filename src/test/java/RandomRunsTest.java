import java.util.Random;

/** Runs of random calls on the program and on the plain model; their answers must be the same. */
public final class RandomRunsTest {
    private static final int RUNS = 5000;
    private static final int SHORTEST = 40;
    /** Some calls are left for looks, which each replay the whole run. */
    private static final int LONGEST = Run.MOST_CALLS - 60;
    private static final int[] ODD_NUMBERS = {Integer.MIN_VALUE, -2, -1, 0, 1, 2, 3, 4, 7, 8, 99, 100, 101, 299, 300,
        1000, 1001, Integer.MAX_VALUE};
    private static final long[] ODD_KEYS = {Long.MIN_VALUE, -1, 0, 1, 2, Long.MAX_VALUE};
    private static final int ROW = 1, MARK = 2, SERVE = 4, ARRIVE = 6, LOSE = 7, TWICE = 8, RESTART = 17, TOLD = 18;

    private final Random random;
    private final Run x;
    private final PlainModel m;
    private final int length;
    private final int keys;
    /** How often each call comes in this run, so that runs differ in what they come to. */
    private final int[] weights = new int[19];
    private boolean differs = false;
    private final int number;

    private RandomRunsTest(int number) {
        this.number = number;
        random = new Random(number);
        int most = random.nextInt(8) == 0 ? odd() : 1 + random.nextInt(16);
        int order = random.nextInt(8) == 0 ? odd() : random.nextInt(2);
        x = new Run(most, order);
        m = new PlainModel(most, order);
        length = SHORTEST + random.nextInt(LONGEST - SHORTEST);
        keys = 1 + random.nextInt(random.nextBoolean() ? 3 : 20);
        weigh();
    }

    private void weigh() {
        for (int i = 0; i < weights.length; i++) {
            weights[i] = random.nextInt(10);
        }
        weights[ROW] += random.nextInt(30);
        weights[SERVE] += random.nextInt(30);
        weights[ARRIVE] += random.nextInt(30);
        weights[RESTART] = random.nextInt(3);
        weights[TOLD] = 1;
        if (number % 10 == 0) {
            // Few runs would be full of items otherwise.
            weights[ROW] += 200;
            weights[MARK] += 100;
        }
        if (number % 10 == 1) {
            // Few runs would have full lines otherwise.
            weights[TWICE] += 200;
            weights[LOSE] = 1;
        }
    }

    public static void main(String[] args) {
        for (int number = 0; number < RUNS; number++) {
            new RandomRunsTest(number).go();
        }
        Due.end();
    }

    private void go() {
        Due.about("random run " + number);
        for (int call = 0; call < length && !differs; call++) {
            one(pick());
        }
        compareAll();
    }

    private int pick() {
        int sum = 0;
        for (int w : weights) {
            sum += w;
        }
        int at = random.nextInt(sum);
        for (int i = 0; i < weights.length; i++) {
            at -= weights[i];
            if (at < 0) {
                return i;
            }
        }
        return 0;
    }

    private int odd() {
        return ODD_NUMBERS[random.nextInt(ODD_NUMBERS.length)];
    }

    private int place(int size) {
        return random.nextInt(20) == 0 ? odd() : random.nextInt(3) == 0 ? 0 : random.nextInt(size + 1);
    }

    private long key() {
        return random.nextInt(30) == 0 ? ODD_KEYS[random.nextInt(ODD_KEYS.length)] : random.nextInt(keys);
    }

    private long value() {
        return random.nextInt(10) == 0 ? Long.MAX_VALUE : random.nextInt(1000);
    }

    private int line() {
        return random.nextInt(20) == 0 ? odd() : random.nextInt(2);
    }

    private void one(int which) {
        int k = place(m.told(7));
        int a = place(m.told(8));
        int line = line();
        int l = place(line == 0 ? m.told(7) : m.told(8));
        long key = key();
        long value = value();
        int item = place(m.told(1));
        int what = random.nextInt(20) == 0 ? odd() : random.nextInt(13);
        int v = random.nextInt(4) == 0 ? odd() : random.nextInt(6);
        int n = random.nextInt(30) == 0 ? odd() : random.nextInt(5);
        switch (which) {
            case 0 -> same("set(" + what + ", " + v + ")", x.set(what, v), m.set(what, v));
            case ROW -> same("row(" + key + ", " + value + ")", x.row(key, value), m.row(key, value));
            case MARK -> same("mark()", x.mark(), m.mark());
            case 3 -> same("tick(" + n + ")", x.tick(n), m.tick(n));
            case SERVE -> same("serve(" + k + ")", x.serve(k), m.serve(k));
            case 5 -> same("refuse(" + k + ", " + v + ")", x.refuse(k, v), m.refuse(k, v));
            case ARRIVE -> same("arrive(" + a + ")", x.arrive(a), m.arrive(a));
            case LOSE -> same("lose(" + line + ", " + l + ")", x.lose(line, l), m.lose(line, l));
            case TWICE, 9 -> same("twice(" + line + ", " + l + ")", x.twice(line, l), m.twice(line, l));
            case 10 -> same("under(" + line + ", " + l + ")", x.under(line, l), m.under(line, l));
            case 11 -> same("out(" + item + ", " + what + ")", x.out(item, what), m.out(item, what));
            case 12 -> same("value(" + item + ")", x.value(item), m.value(item));
            case 13 -> same("item(" + item + ", " + what + ")", x.item(item, what), m.item(item, what));
            case 14 -> same("count(" + key + ")", x.count(key), m.count(key));
            case 15 -> same("kept(" + key + ")", x.kept(key), m.kept(key));
            case 16 -> same("save()", x.save(), m.save());
            case RESTART -> same("restart()", x.restart(), m.restart());
            default -> same("told(" + what + ")", x.told(what), m.told(what));
        }
    }

    private void same(String call, long got, long want) {
        Due.due(call, got, want);
        differs |= got != want;
    }

    private void compareAll() {
        for (int each = 0; each <= 12; each++) {
            int what = each;
            same("told(" + what + ")", x.look(o -> o.told(what)), m.told(what));
        }
        for (int i = 0; i < m.told(1) && !differs; i++) {
            compareItem(i);
        }
        for (int i = 0; i < 100 && !differs; i++) {
            int k = i;
            same("under(0, " + k + ")", x.look(o -> o.under(0, k)), m.under(0, k));
            same("under(1, " + k + ")", x.look(o -> o.under(1, k)), m.under(1, k));
        }
        for (int key = 0; key < keys; key++) {
            compareKey(key);
        }
        for (long key : ODD_KEYS) {
            compareKey(key);
        }
    }

    private void compareItem(int i) {
        for (int each = 0; each <= 4; each++) {
            int what = each;
            same("item(" + i + ", " + what + ")", x.look(o -> o.item(i, what)), m.item(i, what));
        }
        for (int each = 0; each <= 2; each++) {
            int what = each;
            same("out(" + i + ", " + what + ")", x.look(o -> o.out(i, what)), m.out(i, what));
        }
        same("value(" + i + ")", x.look(o -> o.value(i)), m.value(i));
    }

    private void compareKey(long key) {
        same("count(" + key + ")", x.look(o -> o.count(key)), m.count(key));
        same("kept(" + key + ")", x.look(o -> o.kept(key)), m.kept(key));
    }
}
