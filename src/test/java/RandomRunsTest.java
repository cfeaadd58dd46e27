import java.util.Random;

/** Runs of 512 calls on the program and on the plain model; their answers must be the same. */
public final class RandomRunsTest {
    private static final int RUNS = 3000;
    private static final int CALLS = 512;
    private static final int[] ODD_NUMBERS = {Integer.MIN_VALUE, -2, -1, 0, 1, 2, 3, 4, 7, 8, 99, 100, 101, 299, 300,
        1000, 1001, Integer.MAX_VALUE};
    private static final long[] ODD_KEYS = {Long.MIN_VALUE, -1, 0, 1, 2, Long.MAX_VALUE};

    private final Random random;
    private final OutsideAsks x;
    private final PlainModel m;
    private final int keys;
    /** How often each call comes in this run, so that runs differ in what they come to. */
    private final int[] weights = new int[19];
    private boolean differs = false;
    private final int run;

    private RandomRunsTest(int run) {
        this.run = run;
        random = new Random(run);
        int most = random.nextInt(8) == 0 ? odd() : 1 + random.nextInt(16);
        int order = random.nextInt(8) == 0 ? odd() : random.nextInt(2);
        x = new OutsideAsks(most, order);
        m = new PlainModel(most, order);
        keys = 1 + random.nextInt(random.nextBoolean() ? 3 : 20);
        for (int i = 0; i < weights.length; i++) {
            weights[i] = random.nextInt(10);
        }
        weights[1] += random.nextInt(30);
        weights[4] += random.nextInt(30);
        weights[6] += random.nextInt(30);
        weights[17] = random.nextInt(3);
        weights[18] = 1;
    }

    public static void main(String[] args) {
        for (int run = 0; run < RUNS; run++) {
            new RandomRunsTest(run).go();
        }
        Due.end();
    }

    private void go() {
        Due.about("random run " + run);
        for (int call = 0; call < CALLS && !differs; call++) {
            one(pick());
            if (call % 16 == 0 || run % 50 == 0) {
                compareAll();
            }
        }
        compareAll();
    }

    private int pick() {
        int sum = 0;
        for (int w : weights) {
            sum += w;
        }
        int at = random.nextInt(sum);
        for (int i = 0; i < weights.length; i++) {
            at -= weights[i];
            if (at < 0) {
                return i;
            }
        }
        return 0;
    }

    private int odd() {
        return ODD_NUMBERS[random.nextInt(ODD_NUMBERS.length)];
    }

    private int place(int size) {
        return random.nextInt(20) == 0 ? odd() : random.nextInt(3) == 0 ? 0 : random.nextInt(size + 1);
    }

    private long key() {
        return random.nextInt(30) == 0 ? ODD_KEYS[random.nextInt(ODD_KEYS.length)] : random.nextInt(keys);
    }

    private long value() {
        return random.nextInt(10) == 0 ? Long.MAX_VALUE : random.nextInt(1000);
    }

    private int line() {
        return random.nextInt(20) == 0 ? odd() : random.nextInt(2);
    }

    private void one(int which) {
        int k = place(x.told(7));
        int a = place(x.told(8));
        int line = line();
        int l = place(line == 0 ? x.told(7) : x.told(8));
        long key = key();
        long value = value();
        int item = place(x.told(1));
        int what = random.nextInt(20) == 0 ? odd() : random.nextInt(8);
        int v = random.nextInt(4) == 0 ? odd() : random.nextInt(6);
        int n = random.nextInt(30) == 0 ? odd() : random.nextInt(5);
        switch (which) {
            case 0 -> same("set(" + what + ", " + v + ")", x.set(what, v), m.set(what, v));
            case 1 -> same("row(" + key + ", " + value + ")", x.row(key, value), m.row(key, value));
            case 2 -> same("mark()", x.mark(), m.mark());
            case 3 -> same("tick(" + n + ")", x.tick(n), m.tick(n));
            case 4 -> same("serve(" + k + ")", x.serve(k), m.serve(k));
            case 5 -> same("refuse(" + k + ", " + v + ")", x.refuse(k, v), m.refuse(k, v));
            case 6 -> same("arrive(" + a + ")", x.arrive(a), m.arrive(a));
            case 7 -> same("lose(" + line + ", " + l + ")", x.lose(line, l), m.lose(line, l));
            case 8, 9 -> same("twice(" + line + ", " + l + ")", x.twice(line, l), m.twice(line, l));
            case 10 -> same("under(" + line + ", " + l + ")", x.under(line, l), m.under(line, l));
            case 11 -> same("out(" + item + ", " + what + ")", x.out(item, what), m.out(item, what));
            case 12 -> same("value(" + item + ")", x.value(item), m.value(item));
            case 13 -> same("item(" + item + ", " + what + ")", x.item(item, what), m.item(item, what));
            case 14 -> same("count(" + key + ")", x.count(key), m.count(key));
            case 15 -> same("kept(" + key + ")", x.kept(key), m.kept(key));
            case 16 -> same("save()", x.save(), m.save());
            case 17 -> same("restart()", x.restart(), m.restart());
            default -> same("told(" + what + ")", x.told(what), m.told(what));
        }
    }

    private void same(String call, long got, long want) {
        Due.due(call, got, want);
        differs |= got != want;
    }

    private void compareAll() {
        for (int what = -1; what <= 13; what++) {
            same("told(" + what + ")", x.told(what), m.told(what));
        }
        for (int i = -1; i <= m.items.size(); i++) {
            for (int what = -1; what <= 5; what++) {
                same("item(" + i + ", " + what + ")", x.item(i, what), m.item(i, what));
                same("out(" + i + ", " + what + ")", x.out(i, what), m.out(i, what));
            }
            same("value(" + i + ")", x.value(i), m.value(i));
        }
        for (int k = -1; k <= 100; k++) {
            same("under(0, " + k + ")", x.under(0, k), m.under(0, k));
            same("under(1, " + k + ")", x.under(1, k), m.under(1, k));
        }
        for (int key = 0; key < keys; key++) {
            same("count(" + key + ")", x.count(key), m.count(key));
            same("kept(" + key + ")", x.kept(key), m.kept(key));
        }
        for (long key : ODD_KEYS) {
            same("count(" + key + ")", x.count(key), m.count(key));
            same("kept(" + key + ")", x.kept(key), m.kept(key));
        }
    }
}
