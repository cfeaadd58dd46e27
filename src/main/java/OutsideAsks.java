/**
 * Rows that come ask a service outside, some at a time; their answers go out in order or as they
 * come, but never across a mark. README.md tells how to use it.
 */
public final class OutsideAsks {
    public static final int NONE = -1, FULL = -4;

    private static final int MOST_ITEMS = 300;
    private static final int MOST_WORKING = 16;
    private static final int MOST_UNDER_WAY = 100;
    private static final int MOST_KEPT = 8;
    private static final int MOST_TICKS = 1000;
    private static final int LAST_TICK = 1000000;

    private static final int WAIT = 0, TRIES = 1, RATE = 2, KEEP = 3, KNOWS = 7;
    /** The rule of a cause (1 .. 3) is the setting at this and the cause. */
    private static final int BEFORE_RULES = 3;
    private static final int LAST_CAUSE = 3;
    private static final int[] FIRST_SETTINGS = {10, 2, 20, 0, 0, 0, 0, 1};
    private static final int[] LEAST_SETTINGS = {1, 1, 1, 0, 0, 0, 0, 0};
    private static final int[] GREATEST_SETTINGS = {100, 5, 20, 100, 2, 2, 2, 1};

    private static final int RULE_FAILS = 0, RULE_ASKS_AGAIN = 1;

    private static final int WAITING = 0, WORKING = 1, SETTLED = 2, OUT = 3, GONE = 4;

    private static final int ANSWERED = 0, BY_KEPT = 1, FAILED = 2, IN_VAIN = 3, BY_RULE = 4;
    private static final int MARKED = 5;

    private final int most;
    private final boolean ordered;
    private final int[] settings = FIRST_SETTINGS.clone();

    private final Items items = new Items();
    private final Progress live = new Progress();
    private final Progress saved = new Progress();
    private final OutLog outLog = new OutLog();

    /** All rows that are working, by numbers. */
    private final RowList working = new RowList();
    private final RowList queue = new RowList();
    private final RowList overdue = new RowList();

    private final Line asks = new Line();
    private final Line answers = new Line();
    private final Service service = new Service();
    private final KeptAnswers keptAnswers = new KeptAnswers();

    private int now = 0;
    private int sentNow = 0;
    private int sentInAll = 0;
    private int restarts = 0;

    public OutsideAsks(int most, int order) {
        this.most = Math.max(1, Math.min(MOST_WORKING, most));
        this.ordered = (order & 1) != 0;
    }

    public int set(int what, int v) {
        if (what < 0 || what >= settings.length) {
            return NONE;
        }
        if (v < LEAST_SETTINGS[what] || v > GREATEST_SETTINGS[what]) {
            return NONE;
        }
        int was = settings[what];
        settings[what] = v;
        goOn();
        return was;
    }

    public int row(long key, long value) {
        int number = live.items;
        if (number >= MOST_ITEMS) {
            return FULL;
        }
        items.noteRow(number, key, value);
        live.addRow();
        goOn();
        return number;
    }

    public int mark() {
        int number = live.items;
        if (number >= MOST_ITEMS) {
            return FULL;
        }
        items.noteMark(number);
        live.addMark();
        goOn();
        return number;
    }

    public int tick(int n) {
        if (n < 0 || n > MOST_TICKS || now + n > LAST_TICK) {
            return NONE;
        }
        for (int i = 0; i < n; i++) {
            passTick();
        }
        return now;
    }

    public int serve(int k) {
        if (!asks.has(k)) {
            return NONE;
        }
        int row = asks.rowAt(k);
        asks.removeAt(k);
        boolean knows = settings[KNOWS] == 1;
        boolean acted = service.takeAsk(row, items.keyOf(row), items.valueOf(row), knows);
        answers.setOut(row, 0, service.answerTo(row));
        goOn();
        return acted ? 1 : 0;
    }

    public int refuse(int k, int cause) {
        if (!asks.has(k) || !isCause(cause)) {
            return NONE;
        }
        int row = asks.rowAt(k);
        asks.removeAt(k);
        answers.setOut(row, cause, 0L);
        goOn();
        return 0;
    }

    public int arrive(int k) {
        if (!answers.has(k)) {
            return NONE;
        }
        int row = answers.rowAt(k);
        int cause = answers.causeAt(k);
        long value = answers.valueAt(k);
        answers.removeAt(k);
        boolean settled = live.stateOf(row) == WORKING && takeAnswer(row, cause, value);
        goOn();
        return settled ? 1 : 0;
    }

    public int lose(int line, int k) {
        Line way = lineOf(line);
        if (way == null || !way.has(k)) {
            return NONE;
        }
        way.removeAt(k);
        goOn();
        return way.size;
    }

    public int twice(int line, int k) {
        Line way = lineOf(line);
        if (way == null || !way.has(k)) {
            return NONE;
        }
        if (way.size >= MOST_UNDER_WAY) {
            return FULL;
        }
        way.setOut(way.rowAt(k), way.causeAt(k), way.valueAt(k));
        goOn();
        return way.size;
    }

    public int under(int line, int k) {
        Line way = lineOf(line);
        return way == null ? NONE : way.rowAt(k);
    }

    public int out(int k, int what) {
        if (k < 0 || k >= live.outs) {
            return NONE;
        }
        switch (what) {
            case 0:
                return outLog.itemAt(k);
            case 1:
                return live.resultOf(outLog.itemAt(k));
            case 2:
                return outLog.tickAt(k);
            default:
                return NONE;
        }
    }

    public long value(int item) {
        return live.valueOf(item);
    }

    public int item(int item, int what) {
        if (!live.hasItem(item)) {
            return NONE;
        }
        switch (what) {
            case 0:
                return live.stateOf(item);
            case 1:
                return live.resultOf(item);
            case 2:
                return live.triesOf(item);
            case 3:
                return items.isMark(item) ? 1 : 0;
            case 4:
                return queue.find(item) != NONE ? 1 : 0;
            default:
                return NONE;
        }
    }

    public int count(long key) {
        return service.countOf(key);
    }

    public int kept(long key) {
        return keptAnswers.endOf(key);
    }

    public int save() {
        saved.copyFrom(live);
        goOn();
        return live.waiting + working.size + live.settled;
    }

    public int restart() {
        live.goBackTo(saved);
        keptAnswers.forgetAll();
        askAgainAllWorking();
        restarts++;
        goOn();
        return working.size;
    }

    public int told(int what) {
        switch (what) {
            case 0:
                return now;
            case 1:
                return live.items;
            case 2:
                return live.outs;
            case 3:
                return live.waiting;
            case 4:
                return working.size;
            case 5:
                return live.settled;
            case 6:
                return queue.size;
            case 7:
                return asks.size;
            case 8:
                return answers.size;
            case 9:
                return keptAnswers.size;
            case 10:
                return sentInAll;
            case 11:
                return sentNow;
            case 12:
                return restarts;
            default:
                return NONE;
        }
    }

    private Line lineOf(int line) {
        if (line == 0) {
            return asks;
        }
        return line == 1 ? answers : null;
    }

    private void goOn() {
        startWaitingRows();
        sendQueuedAsks();
        letItemsOut();
    }

    private void startWaitingRows() {
        for (int i = 0; i < live.items; i++) {
            if (live.waiting == 0 || working.size >= most) {
                return;
            }
            if (live.stateOf(i) == WAITING) {
                startRow(i);
            }
        }
    }

    private void startRow(int row) {
        long key = items.keyOf(row);
        if (keptAnswers.endOf(key) >= now) {
            live.settleRow(row, BY_KEPT, keptAnswers.valueOf(key));
            return;
        }
        live.startTrying(row);
        working.append(row);
        queue.append(row);
    }

    private void sendQueuedAsks() {
        while (sentNow < settings[RATE] && queue.size > 0) {
            int row = queue.at(0);
            queue.removeAt(0);
            items.setDue(row, now + settings[WAIT]);
            asks.setOut(row, 0, 0L);
            sentNow++;
            sentInAll++;
        }
    }

    /** One pass is enough: an item that goes out makes way only for items behind it. */
    private void letItemsOut() {
        boolean allAheadOut = true;
        for (int i = 0; i < live.items && live.settled > 0; i++) {
            int state = live.stateOf(i);
            if (state == OUT || state == GONE) {
                continue;
            }
            if (!allAheadOut && (ordered || items.isMark(i))) {
                // What is held here holds all behind it, too.
                return;
            }
            if (state == SETTLED) {
                outLog.write(live.outs, i, now);
                live.goOut(i);
            } else {
                allAheadOut = false;
            }
        }
    }

    private void passTick() {
        now++;
        sentNow = 0;
        findOverdue();
        for (int i = 0; i < overdue.size; i++) {
            tryAgain(overdue.at(i), IN_VAIN, 0L);
        }
        // A tick with none overdue or queued only ages what is kept, so nothing could go on by it.
        if (overdue.size > 0 || queue.size > 0) {
            goOn();
        }
    }

    private void findOverdue() {
        overdue.clear();
        for (int i = 0; i < working.size; i++) {
            int row = working.at(i);
            if (items.dueOf(row) <= now && queue.find(row) == NONE) {
                overdue.append(row);
            }
        }
    }

    /** Whether the row was settled, by the result and value for a row without a try left. */
    private boolean tryAgain(int row, int lastResult, long lastValue) {
        if (live.triesOf(row) >= settings[TRIES]) {
            settle(row, lastResult, lastValue);
            return true;
        }
        live.addTry(row);
        queue.append(row);
        return false;
    }

    private boolean takeAnswer(int row, int cause, long value) {
        if (cause != 0) {
            return takeCause(row, cause);
        }
        settle(row, ANSWERED, value);
        if (settings[KEEP] > 0) {
            keptAnswers.keep(items.keyOf(row), value, now + settings[KEEP]);
        }
        return true;
    }

    private boolean takeCause(int row, int cause) {
        int rule = ruleOf(cause);
        if (rule == RULE_ASKS_AGAIN) {
            return queue.find(row) == NONE && tryAgain(row, FAILED, cause);
        }
        if (rule == RULE_FAILS) {
            settle(row, FAILED, cause);
        } else {
            settle(row, BY_RULE, 0L);
        }
        return true;
    }

    private int ruleOf(int cause) {
        return isCause(cause) ? settings[BEFORE_RULES + cause] : RULE_FAILS;
    }

    private boolean isCause(int cause) {
        return cause >= 1 && cause <= LAST_CAUSE;
    }

    private void settle(int row, int result, long value) {
        working.removeAt(working.find(row));
        queue.removeAt(queue.find(row));
        live.settleRow(row, result, value);
    }

    private void askAgainAllWorking() {
        working.clear();
        queue.clear();
        for (int i = 0; i < live.items; i++) {
            if (live.stateOf(i) == WORKING) {
                live.addTry(i);
                working.append(i);
                queue.append(i);
            }
        }
    }

    /**
     * What a restart leaves as it is: asks of gone rows may still come to the service, and a due
     * tick means nothing for a row in the queue, where a restart puts all that are working.
     */
    private static final class Items {
        private final long[] keys = new long[MOST_ITEMS];
        private final long[] values = new long[MOST_ITEMS];
        private final boolean[] marks = new boolean[MOST_ITEMS];
        private final int[] dues = new int[MOST_ITEMS];

        void noteRow(int i, long key, long value) {
            if (mayHave(i)) {
                keys[i] = key;
                values[i] = value;
            }
        }

        void noteMark(int i) {
            if (mayHave(i)) {
                marks[i] = true;
            }
        }

        long keyOf(int i) {
            return mayHave(i) ? keys[i] : 0L;
        }

        long valueOf(int i) {
            return mayHave(i) ? values[i] : 0L;
        }

        boolean isMark(int i) {
            return mayHave(i) && marks[i];
        }

        int dueOf(int i) {
            return mayHave(i) ? dues[i] : NONE;
        }

        void setDue(int i, int tick) {
            if (mayHave(i)) {
                dues[i] = tick;
            }
        }

        private boolean mayHave(int i) {
            return i >= 0 && i < MOST_ITEMS;
        }
    }

    /** What has become of the items: all that saving keeps. */
    private static final class Progress {
        private final int[] states = new int[MOST_ITEMS];
        private final int[] results = new int[MOST_ITEMS];
        private final int[] tries = new int[MOST_ITEMS];
        private final long[] settledValues = new long[MOST_ITEMS];
        private int items = 0;
        private int outs = 0;
        private int waiting = 0;
        /** Those that are settled and not out. */
        private int settled = 0;

        boolean hasItem(int i) {
            return i >= 0 && i < items;
        }

        int stateOf(int i) {
            return hasItem(i) ? states[i] : NONE;
        }

        int resultOf(int i) {
            return hasItem(i) ? results[i] : NONE;
        }

        int triesOf(int i) {
            return hasItem(i) ? tries[i] : 0;
        }

        long valueOf(int i) {
            return hasItem(i) ? settledValues[i] : 0L;
        }

        void addRow() {
            if (items < MOST_ITEMS) {
                states[items] = WAITING;
                results[items] = NONE;
                items++;
                waiting++;
            }
        }

        void addMark() {
            if (items < MOST_ITEMS) {
                states[items] = SETTLED;
                results[items] = MARKED;
                items++;
                settled++;
            }
        }

        void startTrying(int i) {
            if (hasItem(i)) {
                states[i] = WORKING;
                tries[i] = 1;
                waiting--;
            }
        }

        void addTry(int i) {
            if (hasItem(i)) {
                tries[i]++;
            }
        }

        void settleRow(int i, int result, long value) {
            if (!hasItem(i)) {
                return;
            }
            if (states[i] == WAITING) {
                waiting--;
            }
            states[i] = SETTLED;
            results[i] = result;
            settledValues[i] = value;
            settled++;
        }

        void goOut(int i) {
            if (hasItem(i)) {
                states[i] = OUT;
                settled--;
                outs++;
            }
        }

        void copyFrom(Progress other) {
            copyItems(other);
            items = other.items;
        }

        /** Numbers are never given again, so what came later stays, as gone. */
        void goBackTo(Progress before) {
            copyItems(before);
            for (int i = before.items; i < items; i++) {
                becomeGone(i);
            }
        }

        private void becomeGone(int i) {
            if (hasItem(i)) {
                states[i] = GONE;
                results[i] = NONE;
                tries[i] = 0;
                settledValues[i] = 0L;
            }
        }

        /** The places behind the last item are copied, too: nothing was ever written there. */
        private void copyItems(Progress other) {
            System.arraycopy(other.states, 0, states, 0, MOST_ITEMS);
            System.arraycopy(other.results, 0, results, 0, MOST_ITEMS);
            System.arraycopy(other.tries, 0, tries, 0, MOST_ITEMS);
            System.arraycopy(other.settledValues, 0, settledValues, 0, MOST_ITEMS);
            outs = other.outs;
            waiting = other.waiting;
            settled = other.settled;
        }
    }

    /** Which items went out, and when. How many of them still count is told by the progress. */
    private static final class OutLog {
        private final int[] items = new int[MOST_ITEMS];
        private final int[] ticks = new int[MOST_ITEMS];

        void write(int k, int item, int tick) {
            if (k >= 0 && k < MOST_ITEMS) {
                items[k] = item;
                ticks[k] = tick;
            }
        }

        int itemAt(int k) {
            return k >= 0 && k < MOST_ITEMS ? items[k] : NONE;
        }

        int tickAt(int k) {
            return k >= 0 && k < MOST_ITEMS ? ticks[k] : NONE;
        }
    }

    /** Numbers of rows that are working, in some order. */
    private static final class RowList {
        private final int[] rows = new int[MOST_WORKING];
        private int size = 0;

        int at(int k) {
            return k >= 0 && k < size ? rows[k] : NONE;
        }

        int find(int row) {
            for (int i = 0; i < size; i++) {
                if (rows[i] == row) {
                    return i;
                }
            }
            return NONE;
        }

        void append(int row) {
            if (size < MOST_WORKING) {
                rows[size] = row;
                size++;
            }
        }

        /** Takes the place that find() did not find, too, and leaves all as it is then. */
        void removeAt(int k) {
            if (k < 0 || k >= size) {
                return;
            }
            int behind = size - k - 1;
            System.arraycopy(rows, k + 1, rows, k, behind);
            size--;
        }

        void clear() {
            size = 0;
        }
    }

    /** Asks or answers under way, in the order in which they set out; an ask has no cause or value. */
    private static final class Line {
        private final int[] rows = new int[MOST_UNDER_WAY];
        private final int[] causes = new int[MOST_UNDER_WAY];
        private final long[] values = new long[MOST_UNDER_WAY];
        private int size = 0;

        boolean has(int k) {
            return k >= 0 && k < size;
        }

        int rowAt(int k) {
            return has(k) ? rows[k] : NONE;
        }

        int causeAt(int k) {
            return has(k) ? causes[k] : 0;
        }

        long valueAt(int k) {
            return has(k) ? values[k] : 0L;
        }

        /** What sets out on a full line is lost. */
        void setOut(int row, int cause, long value) {
            if (size >= MOST_UNDER_WAY) {
                return;
            }
            rows[size] = row;
            causes[size] = cause;
            values[size] = value;
            size++;
        }

        void removeAt(int k) {
            if (!has(k)) {
                return;
            }
            int behind = size - k - 1;
            System.arraycopy(rows, k + 1, rows, k, behind);
            System.arraycopy(causes, k + 1, causes, k, behind);
            System.arraycopy(values, k + 1, values, k, behind);
            size--;
        }
    }

    /** The service outside: it knows nothing of restarts. */
    private static final class Service {
        private final long[] keys = new long[MOST_ITEMS];
        /** How often it acted for each row; the count of a key is the sum over the key's rows. */
        private final int[] acts = new int[MOST_ITEMS];
        private final long[] latestAnswers = new long[MOST_ITEMS];

        int countOf(long key) {
            int sum = 0;
            for (int i = 0; i < MOST_ITEMS; i++) {
                if (keys[i] == key) {
                    sum += acts[i];
                }
            }
            return sum;
        }

        long answerTo(int row) {
            return row >= 0 && row < MOST_ITEMS ? latestAnswers[row] : 0L;
        }

        /** Whether it acted; answerTo() has the answer then. */
        boolean takeAsk(int row, long key, long value, boolean knowsNumbers) {
            if (row < 0 || row >= MOST_ITEMS || (knowsNumbers && acts[row] > 0)) {
                return false;
            }
            keys[row] = key;
            acts[row]++;
            latestAnswers[row] = value + countOf(key);
            return true;
        }
    }

    /** At most one answer for a key; those whose end is past stay until another takes their place. */
    private static final class KeptAnswers {
        private final long[] keys = new long[MOST_KEPT];
        private final long[] values = new long[MOST_KEPT];
        private final int[] ends = new int[MOST_KEPT];
        private int size = 0;

        int endOf(long key) {
            int place = find(key);
            return place == NONE ? NONE : ends[place];
        }

        long valueOf(long key) {
            int place = find(key);
            return place == NONE ? 0L : values[place];
        }

        void keep(long key, long value, int end) {
            int place = placeFor(key);
            if (place >= 0 && place < MOST_KEPT) {
                keys[place] = key;
                values[place] = value;
                ends[place] = end;
            }
        }

        void forgetAll() {
            size = 0;
        }

        private int placeFor(long key) {
            int place = find(key);
            if (place != NONE) {
                return place;
            }
            if (size >= MOST_KEPT) {
                return firstToGo();
            }
            size++;
            return size - 1;
        }

        private int firstToGo() {
            int first = 0;
            for (int i = 1; i < size; i++) {
                boolean sooner = ends[i] < ends[first];
                if (sooner || (ends[i] == ends[first] && keys[i] < keys[first])) {
                    first = i;
                }
            }
            return first;
        }

        private int find(long key) {
            for (int i = 0; i < size; i++) {
                if (keys[i] == key) {
                    return i;
                }
            }
            return NONE;
        }
    }
}
