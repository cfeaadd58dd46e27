import java.util.ArrayList;
import java.util.HashMap;
import java.util.List;
import java.util.Map;

/** The document said once more, word for word and without regard to speed, to compare with. */
final class PlainModel {
    static final int NONE = -1, FULL = -4;

    enum State { WAITING, WORKING, SETTLED, OUT, GONE }

    static final class Item {
        boolean mark;
        long key;
        long asked;
        State state = State.WAITING;
        int result = NONE;
        long value = 0;
        int tries = 0;
        int due = 0;

        Item copy() {
            Item c = new Item();
            c.mark = mark;
            c.key = key;
            c.asked = asked;
            c.state = state;
            c.result = result;
            c.value = value;
            c.tries = tries;
            c.due = due;
            return c;
        }

        boolean isOut() {
            return state == State.OUT || state == State.GONE;
        }
    }

    record Message(int row, int cause, long value) {
    }

    record Kept(long value, int end) {
    }

    record Went(int item, int tick) {
    }

    private static final int[][] RANGES = {{1, 100}, {1, 5}, {1, 20}, {0, 100}, {0, 2}, {0, 2}, {0, 2}, {0, 1}};

    final int most;
    final boolean ordered;
    final int[] settings = {10, 2, 20, 0, 0, 0, 0, 1};
    final List<Item> items = new ArrayList<>();
    final List<Integer> queue = new ArrayList<>();
    final List<List<Message>> lines = List.of(new ArrayList<>(), new ArrayList<>());
    final Map<Long, Integer> counts = new HashMap<>();
    final Map<Integer, Long> served = new HashMap<>();
    final Map<Long, Kept> kept = new HashMap<>();
    final List<Went> outs = new ArrayList<>();
    List<Item> savedItems = new ArrayList<>();
    int savedOuts = 0;
    int now = 0;
    int sentNow = 0;
    int sentInAll = 0;
    int restarts = 0;

    PlainModel(int most, int order) {
        this.most = most < 1 ? 1 : most > 16 ? 16 : most;
        this.ordered = order % 2 != 0;
    }

    int number(State state) {
        int n = 0;
        for (Item item : items) {
            if (item.state == state) {
                n++;
            }
        }
        return n;
    }

    int first(State state) {
        for (int i = 0; i < items.size(); i++) {
            if (items.get(i).state == state) {
                return i;
            }
        }
        return NONE;
    }

    void setOut(int line, Message message) {
        if (lines.get(line).size() < 100) {
            lines.get(line).add(message);
        }
    }

    void goOn() {
        while (number(State.WORKING) < most && first(State.WAITING) != NONE) {
            int row = first(State.WAITING);
            Item item = items.get(row);
            Kept answer = kept.get(item.key);
            if (answer != null && !(answer.end() < now)) {
                settle(row, 1, answer.value());
            } else {
                item.state = State.WORKING;
                item.tries = 1;
                queue.add(row);
            }
        }
        while (sentNow < settings[2] && !queue.isEmpty()) {
            int row = queue.remove(0);
            setOut(0, new Message(row, 0, 0));
            items.get(row).due = now + settings[0];
            sentNow++;
            sentInAll++;
        }
        while (leastThatCanGo() != NONE) {
            int item = leastThatCanGo();
            items.get(item).state = State.OUT;
            outs.add(new Went(item, now));
        }
    }

    int leastThatCanGo() {
        for (int i = 0; i < items.size(); i++) {
            if (items.get(i).state == State.SETTLED && canGo(i)) {
                return i;
            }
        }
        return NONE;
    }

    boolean canGo(int item) {
        for (int i = 0; i < item; i++) {
            boolean mustBeOut = ordered || items.get(item).mark || items.get(i).mark;
            if (mustBeOut && !items.get(i).isOut()) {
                return false;
            }
        }
        return true;
    }

    void settle(int row, int result, long value) {
        Item item = items.get(row);
        item.state = State.SETTLED;
        item.result = result;
        item.value = value;
        queue.remove(Integer.valueOf(row));
    }

    void tryAgain(int row, int elseResult, long elseValue) {
        Item item = items.get(row);
        if (item.tries < settings[1]) {
            item.tries++;
            queue.add(row);
        } else {
            settle(row, elseResult, elseValue);
        }
    }

    int set(int what, int v) {
        if (what < 0 || what > 7 || v < RANGES[what][0] || v > RANGES[what][1]) {
            return NONE;
        }
        int was = settings[what];
        settings[what] = v;
        goOn();
        return was;
    }

    int row(long key, long value) {
        if (items.size() == 300) {
            return FULL;
        }
        Item item = new Item();
        item.key = key;
        item.asked = value;
        items.add(item);
        goOn();
        return items.size() - 1;
    }

    int mark() {
        if (items.size() == 300) {
            return FULL;
        }
        Item item = new Item();
        item.mark = true;
        item.state = State.SETTLED;
        item.result = 5;
        items.add(item);
        goOn();
        return items.size() - 1;
    }

    int tick(int n) {
        if (n < 0 || n > 1000 || now + n > 1000000) {
            return NONE;
        }
        for (int t = 0; t < n; t++) {
            now++;
            sentNow = 0;
            for (int row = 0; row < items.size(); row++) {
                Item item = items.get(row);
                if (item.state == State.WORKING && !queue.contains(row) && item.due <= now) {
                    tryAgain(row, 3, 0);
                }
            }
            goOn();
        }
        return now;
    }

    boolean has(int line, int k) {
        return (line == 0 || line == 1) && k >= 0 && k < lines.get(line).size();
    }

    int serve(int k) {
        if (!has(0, k)) {
            return NONE;
        }
        int row = lines.get(0).remove(k).row();
        int acted = 0;
        if (settings[7] == 0 || !served.containsKey(row)) {
            acted = 1;
            long key = items.get(row).key;
            counts.merge(key, 1, Integer::sum);
            served.put(row, items.get(row).asked + counts.get(key));
        }
        setOut(1, new Message(row, 0, served.get(row)));
        goOn();
        return acted;
    }

    int refuse(int k, int cause) {
        if (!has(0, k) || cause < 1 || cause > 3) {
            return NONE;
        }
        setOut(1, new Message(lines.get(0).remove(k).row(), cause, 0));
        goOn();
        return 0;
    }

    int arrive(int k) {
        if (!has(1, k)) {
            return NONE;
        }
        Message answer = lines.get(1).remove(k);
        Item item = items.get(answer.row());
        boolean wasWorking = item.state == State.WORKING;
        if (wasWorking) {
            take(answer, item);
        }
        boolean settled = wasWorking && item.state != State.WORKING;
        goOn();
        return settled ? 1 : 0;
    }

    void take(Message answer, Item item) {
        int row = answer.row();
        if (answer.cause() == 0) {
            settle(row, 0, answer.value());
            keep(item.key, answer.value());
            return;
        }
        int rule = settings[3 + answer.cause()];
        if (rule == 0) {
            settle(row, 2, answer.cause());
        } else if (rule == 2) {
            settle(row, 4, 0);
        } else if (!queue.contains(row)) {
            tryAgain(row, 2, answer.cause());
        }
    }

    void keep(long key, long value) {
        if (settings[3] == 0) {
            return;
        }
        if (!kept.containsKey(key) && kept.size() == 8) {
            Long least = null;
            for (Long other : kept.keySet()) {
                if (least == null || kept.get(other).end() < kept.get(least).end()
                        || (kept.get(other).end() == kept.get(least).end() && other < least)) {
                    least = other;
                }
            }
            kept.remove(least);
        }
        kept.put(key, new Kept(value, now + settings[3]));
    }

    int lose(int line, int k) {
        if (!has(line, k)) {
            return NONE;
        }
        lines.get(line).remove(k);
        goOn();
        return lines.get(line).size();
    }

    int twice(int line, int k) {
        if (!has(line, k)) {
            return NONE;
        }
        if (lines.get(line).size() == 100) {
            return FULL;
        }
        lines.get(line).add(lines.get(line).get(k));
        goOn();
        return lines.get(line).size();
    }

    int under(int line, int k) {
        return has(line, k) ? lines.get(line).get(k).row() : NONE;
    }

    int out(int k, int what) {
        if (k < 0 || k >= outs.size() || what < 0 || what > 2) {
            return NONE;
        }
        Went went = outs.get(k);
        return what == 0 ? went.item() : what == 1 ? items.get(went.item()).result : went.tick();
    }

    long value(int item) {
        return item < 0 || item >= items.size() ? 0 : items.get(item).value;
    }

    int item(int item, int what) {
        if (item < 0 || item >= items.size() || what < 0 || what > 4) {
            return NONE;
        }
        Item it = items.get(item);
        int[] all = {it.state.ordinal(), it.result, it.tries, it.mark ? 1 : 0, queue.contains(item) ? 1 : 0};
        return all[what];
    }

    int count(long key) {
        return counts.getOrDefault(key, 0);
    }

    int kept(long key) {
        return kept.containsKey(key) ? kept.get(key).end() : NONE;
    }

    int save() {
        savedItems = new ArrayList<>();
        int left = 0;
        for (Item item : items) {
            savedItems.add(item.copy());
            left += item.isOut() ? 0 : 1;
        }
        savedOuts = outs.size();
        goOn();
        return left;
    }

    int restart() {
        while (outs.size() > savedOuts) {
            outs.remove(outs.size() - 1);
        }
        queue.clear();
        kept.clear();
        for (int i = 0; i < items.size(); i++) {
            boolean cameLater = i >= savedItems.size();
            Item item = cameLater ? items.get(i).copy() : savedItems.get(i).copy();
            if (cameLater) {
                item.state = State.GONE;
                item.result = NONE;
                item.value = 0;
                item.tries = 0;
            } else if (item.state == State.WORKING) {
                item.tries++;
                queue.add(i);
            }
            items.set(i, item);
        }
        restarts++;
        goOn();
        return number(State.WORKING);
    }

    int told(int what) {
        int[] all = {now, items.size(), outs.size(), number(State.WAITING), number(State.WORKING),
            number(State.SETTLED), queue.size(), lines.get(0).size(), lines.get(1).size(), kept.size(),
            sentInAll, sentNow, restarts};
        return what < 0 || what >= all.length ? NONE : all[what];
    }
}
