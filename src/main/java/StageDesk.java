import java.util.Arrays;

/** Stages with queues and workers in steps of a clock. */
public final class StageDesk {
    public static final int BAD = -1;
    public static final int FULL = -2;
    public static final int SHUT = -3;
    public static final int SLOW = -4;

    private static final int OK = 1;
    private static final int TAKEN = 0;
    private static final int NONE = -1;

    private static final int COPY = 0;
    private static final int SPLIT = 1;
    private static final int ROUTE = 2;
    private static final int SUM = 3;
    private static final int END = 4;

    private static final int MOST_STAGES = 8;
    private static final int MOST_BOUND = 32;
    private static final int MOST_WORKERS = 4;
    private static final int MOST_COST = 9;
    private static final int MOST_RATE = 100;
    private static final int MOST_DEPTH = 100;
    private static final int MOST_GOAL = 1000;
    private static final int MOST_PLACES = 8;
    private static final int MOST_BATCH = 8;
    // A SPLIT gives two events for each one of its batch; no sort gives more.
    private static final int MOST_GIFTS = 2 * MOST_BATCH;
    private static final int MOST_TIMES = 20;
    private static final int MOST_TIMERS = 50;
    private static final int MOST_DELAY = 1000;
    private static final int MOST_TICKS = 50;
    private static final int LAST_TICK = 400;
    private static final int CONTROL_TICKS = 10;

    private final Stage[] stages = new Stage[MOST_STAGES];
    private final Timers timers = new Timers();
    private final DoneRow doneRow = new DoneRow();
    private int stageCount;
    private int now;
    private int made;
    private int lostCount;

    public StageDesk() {
    }

    public int stage(int sort, int bound, int cap, int cost) {
        if (!within(sort, COPY, END) || !within(bound, 1, MOST_BOUND)
                || !within(cap, 1, MOST_WORKERS) || !within(cost, 0, MOST_COST)) {
            return BAD;
        }
        if (stageCount >= MOST_STAGES) {
            return FULL;
        }
        stages[stageCount] = new Stage(sort, bound, cap, cost);
        stageCount++;
        return stageCount - 1;
    }

    public int targets(int stage, int first, int second) {
        Stage s = stageAt(stage);
        if (s == null || !isTarget(first) || !isTarget(second)) {
            return BAD;
        }
        s.first = stageAt(first);
        s.second = stageAt(second);
        return OK;
    }

    public int admit(int stage, int rate, int depth, int goal) {
        Stage s = stageAt(stage);
        if (s == null || !within(rate, 0, MOST_RATE) || !within(depth, 1, MOST_DEPTH)
                || !within(goal, 0, MOST_GOAL)) {
            return BAD;
        }
        s.rate = rate;
        s.depth = depth;
        s.goal = goal;
        s.tokens = Math.min(s.tokens, depth);
        return OK;
    }

    public int put(int stage, int value) {
        Stage s = stageAt(stage);
        if (s == null) {
            return BAD;
        }
        int refusal = s.ask();
        if (refusal != TAKEN) {
            return refusal;
        }
        int number = makeEvent();
        s.take(number, value, now);
        return number;
    }

    public int prepare(int stage, int places) {
        Stage s = stageAt(stage);
        if (s == null || !within(places, 1, MOST_PLACES)) {
            return BAD;
        }
        if (s.closed) {
            return SHUT;
        }
        if (places > s.freePlaces()) {
            return FULL;
        }
        s.reserved += places;
        return OK;
    }

    public int commit(int stage, int value) {
        Stage s = stageAt(stage);
        if (s == null || s.reserved == 0) {
            return BAD;
        }
        if (s.closed) {
            return SHUT;
        }
        int firstNumber = made;
        for (int i = 0; i < s.reserved; i++) {
            s.queue.append(makeEvent(), value, now);
        }
        s.reserved = 0;
        return firstNumber;
    }

    public int abort(int stage) {
        Stage s = stageAt(stage);
        if (s == null) {
            return BAD;
        }
        int were = s.reserved;
        s.reserved = 0;
        return were;
    }

    public int timer(int stage, int value, int ticks) {
        Stage s = stageAt(stage);
        if (s == null || !within(ticks, 1, MOST_DELAY)) {
            return BAD;
        }
        return timers.append(s, value, now + ticks);
    }

    public int cancel(int timer) {
        return timers.remove(timer) ? OK : BAD;
    }

    public int close(int stage) {
        Stage s = stageAt(stage);
        if (s == null) {
            return BAD;
        }
        if (s.closed) {
            return SHUT;
        }
        s.closed = true;
        return OK;
    }

    public int tick(int many) {
        if (!within(many, 1, MOST_TICKS)) {
            return BAD;
        }
        if (now + many > LAST_TICK) {
            return FULL;
        }
        for (int i = 0; i < many; i++) {
            passTick();
        }
        return now;
    }

    public int told(int stage, int what) {
        Stage s = stageAt(stage);
        return s == null ? BAD : s.figure(what);
    }

    public int queued(int stage, int i) {
        Stage s = stageAt(stage);
        if (s == null || !within(i, 0, s.queue.size - 1)) {
            return BAD;
        }
        return s.queue.numbers[i];
    }

    public int worker(int stage, int worker, int what) {
        Stage s = stageAt(stage);
        if (s == null || !within(worker, 0, s.workerCount - 1)) {
            return BAD;
        }
        return s.workers[worker].figure(what);
    }

    public int done(int i) {
        return within(i, 0, doneRow.size - 1) ? doneRow.numbers[i] : BAD;
    }

    public int value(int i) {
        return within(i, 0, doneRow.size - 1) ? doneRow.values[i] : BAD;
    }

    public int events() {
        return made;
    }

    public int ended() {
        return doneRow.size;
    }

    public int lost() {
        return lostCount;
    }

    public int clock() {
        return now;
    }

    private static boolean within(int number, int least, int most) {
        return number >= least && number <= most;
    }

    private Stage stageAt(int number) {
        return within(number, 0, stageCount - 1) ? stages[number] : null;
    }

    private boolean isTarget(int number) {
        return within(number, NONE, stageCount - 1);
    }

    private int makeEvent() {
        made++;
        return made - 1;
    }

    private void passTick() {
        now++;
        for (int i = 0; i < stageCount; i++) {
            stages[i].growTokens();
        }
        fireTimers();
        for (int i = 0; i < stageCount; i++) {
            Stage s = stages[i];
            for (int j = 0; j < s.workerCount; j++) {
                letWork(s, s.workers[j]);
            }
        }
        if (now % CONTROL_TICKS == 0) {
            for (int i = 0; i < stageCount; i++) {
                stages[i].control();
            }
        }
    }

    private void fireTimers() {
        int kept = 0;
        for (int i = 0; i < timers.size; i++) {
            if (timers.dues[i] == now) {
                fire(timers.stages[i], timers.values[i]);
            } else {
                timers.move(i, kept);
                kept++;
            }
        }
        timers.size = kept;
    }

    private void fire(Stage s, int value) {
        // Unlike one that is put, this event is made even when it is refused.
        int number = makeEvent();
        if (s.ask() == TAKEN) {
            s.take(number, value, now);
        } else {
            lostCount++;
        }
    }

    private void letWork(Stage s, Worker w) {
        if (w.batch.size > 0) {
            workOnBatch(s, w);
        }
        if (w.batch.size == 0) {
            s.startBatch(w);
        }
        w.idleTicks = w.batch.size == 0 ? w.idleTicks + 1 : 0;
    }

    private void workOnBatch(Stage s, Worker w) {
        if (w.rest > 0) {
            w.rest--;
        }
        if (w.rest > 0) {
            return;
        }
        if (!w.giving) {
            s.collectGifts(w);
            w.giving = true;
        }
        if (offerGifts(w.gifts)) {
            finishBatch(s, w);
        }
    }

    /** Whether all were taken; else the one that was refused is ahead of those that are left. */
    private boolean offerGifts(Gifts gifts) {
        for (; gifts.next < gifts.size; gifts.next++) {
            if (gifts.number == NONE) {
                gifts.number = makeEvent();
            }
            Stage target = gifts.targets[gifts.next];
            if (target.ask() != TAKEN) {
                return false;
            }
            target.take(gifts.number, gifts.values[gifts.next], gifts.births[gifts.next]);
            gifts.number = NONE;
        }
        return true;
    }

    private void finishBatch(Stage s, Worker w) {
        EventRow batch = w.batch;
        s.batchesHandled++;
        s.eventsHandled += batch.size;
        if (s.sort == END) {
            for (int i = 0; i < batch.size; i++) {
                s.times.append(now - batch.births[i]);
                doneRow.append(batch.numbers[i], batch.values[i]);
            }
        }
        batch.size = 0;
        w.giving = false;
        w.gifts.clear();
    }

    /** Events, the first one at place 0. */
    private static final class EventRow {
        final int[] numbers;
        final int[] values;
        final int[] births;
        int size;

        EventRow(int room) {
            numbers = new int[room];
            values = new int[room];
            births = new int[room];
        }

        void append(int number, int value, int born) {
            if (size >= numbers.length) {
                return;
            }
            numbers[size] = number;
            values[size] = value;
            births[size] = born;
            size++;
        }

        /** Becomes the first events of another row, which has them no more. */
        void becomeFirstOf(EventRow other, int most) {
            int many = Math.min(Math.min(most, other.size), numbers.length);
            System.arraycopy(other.numbers, 0, numbers, 0, many);
            System.arraycopy(other.values, 0, values, 0, many);
            System.arraycopy(other.births, 0, births, 0, many);
            size = many;
            other.dropFirst(many);
        }

        void dropFirst(int many) {
            int left = size - many;
            System.arraycopy(numbers, many, numbers, 0, left);
            System.arraycopy(values, many, values, 0, left);
            System.arraycopy(births, many, births, 0, left);
            size = left;
        }
    }

    /** What a batch gives, in the order in which it is offered. */
    private static final class Gifts {
        final Stage[] targets = new Stage[MOST_GIFTS];
        final int[] values = new int[MOST_GIFTS];
        final int[] births = new int[MOST_GIFTS];
        int size;
        int next;
        // Of the one at next: an event is made just before its first offer, and keeps
        // its number when it was refused.
        int number = NONE;

        void clear() {
            size = 0;
            next = 0;
            number = NONE;
        }

        void append(Stage target, int value, int born) {
            if (target == null || size >= targets.length) {
                return;
            }
            targets[size] = target;
            values[size] = value;
            births[size] = born;
            size++;
        }
    }

    private static final class Worker {
        final EventRow batch = new EventRow(MOST_BATCH);
        final Gifts gifts = new Gifts();
        int rest;
        int idleTicks;
        boolean giving;

        int figure(int what) {
            switch (what) {
                case 0:
                    return batch.size;
                case 1:
                    return rest;
                case 2:
                    return gifts.size - gifts.next;
                default:
                    return BAD;
            }
        }
    }

    /** The last response times of an END. */
    private static final class Times {
        final int[] kept = new int[MOST_TIMES];
        final int[] sorted = new int[MOST_TIMES];
        int size;

        void append(int time) {
            if (size >= MOST_TIMES) {
                System.arraycopy(kept, 1, kept, 0, MOST_TIMES - 1);
                size = MOST_TIMES - 1;
            }
            kept[size] = time;
            size++;
        }

        int response() {
            if (size == 0) {
                return 0;
            }
            for (int i = 0; i < size; i++) {
                int place = i;
                for (; place > 0 && sorted[place - 1] > kept[i]; place--) {
                    sorted[place] = sorted[place - 1];
                }
                sorted[place] = kept[i];
            }
            return sorted[9 * size / 10];
        }
    }

    private static final class Stage {
        final int sort;
        final int bound;
        final int cost;
        final EventRow queue;
        final Worker[] workers;
        final Times times = new Times();
        Stage first;
        Stage second;
        boolean closed;
        int reserved;
        int rate = MOST_RATE;
        int depth = MOST_DEPTH;
        int tokens = MOST_DEPTH;
        int goal;
        int workerCount = 1;
        int batchSize = 1;
        int refusals;
        int batchesHandled;
        int eventsHandled;

        Stage(int sort, int bound, int cap, int cost) {
            this.sort = sort;
            this.bound = bound;
            this.cost = cost;
            queue = new EventRow(bound);
            workers = new Worker[cap];
            for (int i = 0; i < cap; i++) {
                workers[i] = new Worker();
            }
        }

        int freePlaces() {
            return bound - queue.size - reserved;
        }

        /** TAKEN when an event that is offered now may be taken; else why not, and that is counted. */
        int ask() {
            int answer = TAKEN;
            if (closed) {
                answer = SHUT;
            } else if (freePlaces() <= 0) {
                answer = FULL;
            } else if (tokens <= 0) {
                answer = SLOW;
            }
            if (answer != TAKEN) {
                refusals++;
            }
            return answer;
        }

        void take(int number, int value, int born) {
            queue.append(number, value, born);
            tokens--;
        }

        void growTokens() {
            tokens = Math.min(tokens + rate, depth);
        }

        void startBatch(Worker w) {
            w.batch.becomeFirstOf(queue, batchSize);
            w.rest = cost * w.batch.size;
        }

        void collectGifts(Worker w) {
            if (sort == SUM) {
                collectSum(w);
                return;
            }
            for (int i = 0; i < w.batch.size; i++) {
                collectFrom(w.batch.values[i], w.batch.births[i], w.gifts);
            }
        }

        void collectSum(Worker w) {
            int sum = 0;
            for (int i = 0; i < w.batch.size; i++) {
                sum += w.batch.values[i];
            }
            w.gifts.append(first, sum, w.batch.births[0]);
        }

        void collectFrom(int value, int born, Gifts gifts) {
            switch (sort) {
                case COPY:
                    gifts.append(first, value, born);
                    break;
                case SPLIT:
                    gifts.append(first, value, born);
                    gifts.append(second, value, born);
                    break;
                case ROUTE:
                    gifts.append((value & 1) == 0 ? first : second, value, born);
                    break;
                default:
                    break;
            }
        }

        void control() {
            controlWorkers();
            if (sort != END) {
                controlBatch();
            }
            if (goal > 0 && times.size > 0) {
                controlRate();
            }
        }

        void controlWorkers() {
            if (queue.size > bound / 2 && workerCount < workers.length) {
                workers[workerCount].idleTicks = 0;
                workerCount++;
            } else if (workerCount > 1 && isLongIdle(workers[workerCount - 1])) {
                workerCount--;
            }
        }

        // A worker behind the first comes only where controllers act, so that it has been
        // there for ten ticks when they act again: "since it is there" needs no other test.
        boolean isLongIdle(Worker w) {
            return w.batch.size == 0 && w.idleTicks >= CONTROL_TICKS;
        }

        void controlBatch() {
            if (queue.size > batchSize) {
                batchSize = Math.min(batchSize + 1, MOST_BATCH);
            } else if (queue.size == 0) {
                batchSize = Math.max(batchSize - 1, 1);
            }
        }

        void controlRate() {
            if (times.response() > goal) {
                rate = Math.max(3 * rate / 4, 1);
            } else {
                rate = Math.min(rate + 1, MOST_RATE);
            }
        }

        int figure(int what) {
            switch (what) {
                case 0:
                    return queue.size;
                case 1:
                    return reserved;
                case 2:
                    return workerCount;
                case 3:
                    return batchSize;
                case 4:
                    return rate;
                case 5:
                    return tokens;
                case 6:
                    return refusals;
                case 7:
                    return batchesHandled;
                case 8:
                    return eventsHandled;
                case 9:
                    return times.response();
                default:
                    return BAD;
            }
        }
    }

    /** The timers that wait, those that were set first before others. */
    private static final class Timers {
        final int[] numbers = new int[MOST_TIMERS];
        final Stage[] stages = new Stage[MOST_TIMERS];
        final int[] values = new int[MOST_TIMERS];
        final int[] dues = new int[MOST_TIMERS];
        int size;
        int set;

        /** Its number, or FULL. */
        int append(Stage stage, int value, int due) {
            if (size >= MOST_TIMERS) {
                return FULL;
            }
            numbers[size] = set;
            stages[size] = stage;
            values[size] = value;
            dues[size] = due;
            size++;
            set++;
            return set - 1;
        }

        boolean remove(int number) {
            int kept = 0;
            for (int i = 0; i < size; i++) {
                if (numbers[i] != number) {
                    move(i, kept);
                    kept++;
                }
            }
            boolean found = kept < size;
            size = kept;
            return found;
        }

        void move(int from, int to) {
            numbers[to] = numbers[from];
            stages[to] = stages[from];
            values[to] = values[from];
            dues[to] = dues[from];
        }
    }

    /** The events that ENDs handled. */
    private static final class DoneRow {
        int[] numbers = new int[64];
        int[] values = new int[64];
        int size;

        void append(int number, int value) {
            if (size >= numbers.length) {
                numbers = Arrays.copyOf(numbers, 2 * size);
                values = Arrays.copyOf(values, 2 * size);
            }
            numbers[size] = number;
            values[size] = value;
            size++;
        }
    }
}
