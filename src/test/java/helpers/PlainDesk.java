import java.util.ArrayDeque;
import java.util.ArrayList;
import java.util.Collections;
import java.util.Deque;
import java.util.List;

/** The document once more, with lists and objects and no care for room, to compare StageDesk with. */
final class PlainDesk {
    static final class Event {
        int number = -1;
        final int value;
        final int born;

        Event(int value, int born) {
            this.value = value;
            this.born = born;
        }
    }

    static final class Gift {
        final Event event;
        final StageModel target;

        Gift(Event event, StageModel target) {
            this.event = event;
            this.target = target;
        }
    }

    static final class WorkerModel {
        List<Event> batch = List.of();
        Deque<Gift> gifts;
        int rest;
        final List<Boolean> idle = new ArrayList<>();
    }

    static final class StageModel {
        int sort;
        int bound;
        int cap;
        int cost;
        int first = -1;
        int second = -1;
        int rate = 100;
        int depth = 100;
        int tokens = 100;
        int goal;
        int batch = 1;
        int reserved;
        int refused;
        int batches;
        int handled;
        boolean open = true;
        final List<Event> queue = new ArrayList<>();
        final List<WorkerModel> workers = new ArrayList<>();
        final List<Integer> times = new ArrayList<>();
    }

    static final class TimerModel {
        int number;
        int due;
        int stage;
        int value;
    }

    private final List<StageModel> stages = new ArrayList<>();
    private final List<TimerModel> waiting = new ArrayList<>();
    private final List<Event> done = new ArrayList<>();
    private int timersSet;
    private int clock;
    private int events;
    private int lost;

    private boolean no(int stage) {
        return stage < 0 || stage >= stages.size();
    }

    int stage(int sort, int bound, int cap, int cost) {
        if (sort < 0 || sort > 4 || bound < 1 || bound > 32 || cap < 1 || cap > 4 || cost < 0 || cost > 9) {
            return -1;
        }
        if (stages.size() == 8) {
            return -2;
        }
        StageModel s = new StageModel();
        s.sort = sort;
        s.bound = bound;
        s.cap = cap;
        s.cost = cost;
        s.workers.add(new WorkerModel());
        stages.add(s);
        return stages.size() - 1;
    }

    int targets(int stage, int first, int second) {
        if (no(stage) || (no(first) && first != -1) || (no(second) && second != -1)) {
            return -1;
        }
        stages.get(stage).first = first;
        stages.get(stage).second = second;
        return 1;
    }

    int admit(int stage, int rate, int depth, int goal) {
        if (no(stage) || rate < 0 || rate > 100 || depth < 1 || depth > 100 || goal < 0 || goal > 1000) {
            return -1;
        }
        StageModel s = stages.get(stage);
        s.rate = rate;
        s.depth = depth;
        s.goal = goal;
        if (s.tokens > depth) {
            s.tokens = depth;
        }
        return 1;
    }

    private void number(Event event) {
        event.number = events++;
    }

    private static int refusal(StageModel s) {
        if (!s.open) {
            return -3;
        }
        if (s.queue.size() + s.reserved == s.bound) {
            return -2;
        }
        return s.tokens == 0 ? -4 : 0;
    }

    private static boolean offer(StageModel s, Event event) {
        if (refusal(s) != 0) {
            s.refused++;
            return false;
        }
        s.tokens--;
        s.queue.add(event);
        return true;
    }

    int put(int stage, int value) {
        if (no(stage)) {
            return -1;
        }
        int why = refusal(stages.get(stage));
        Event event = new Event(value, clock);
        if (!offer(stages.get(stage), event)) {
            return why;
        }
        number(event);
        return event.number;
    }

    int prepare(int stage, int places) {
        if (no(stage) || places < 1 || places > 8) {
            return -1;
        }
        StageModel s = stages.get(stage);
        if (!s.open) {
            return -3;
        }
        if (s.queue.size() + s.reserved + places > s.bound) {
            return -2;
        }
        s.reserved += places;
        return 1;
    }

    int commit(int stage, int value) {
        if (no(stage) || stages.get(stage).reserved == 0) {
            return -1;
        }
        StageModel s = stages.get(stage);
        if (!s.open) {
            return -3;
        }
        int first = events;
        for (; s.reserved > 0; s.reserved--) {
            Event event = new Event(value, clock);
            number(event);
            s.queue.add(event);
        }
        return first;
    }

    int abort(int stage) {
        if (no(stage)) {
            return -1;
        }
        int were = stages.get(stage).reserved;
        stages.get(stage).reserved = 0;
        return were;
    }

    int timer(int stage, int value, int ticks) {
        if (no(stage) || ticks < 1 || ticks > 1000) {
            return -1;
        }
        if (waiting.size() == 50) {
            return -2;
        }
        TimerModel t = new TimerModel();
        t.number = timersSet++;
        t.due = clock + ticks;
        t.stage = stage;
        t.value = value;
        waiting.add(t);
        return t.number;
    }

    int cancel(int timer) {
        return waiting.removeIf(t -> t.number == timer) ? 1 : -1;
    }

    int close(int stage) {
        if (no(stage)) {
            return -1;
        }
        if (!stages.get(stage).open) {
            return -3;
        }
        stages.get(stage).open = false;
        return 1;
    }

    int tick(int many) {
        if (many < 1 || many > 50) {
            return -1;
        }
        if (clock + many > 400) {
            return -2;
        }
        for (int i = 0; i < many; i++) {
            tickOnce();
        }
        return clock;
    }

    private void tickOnce() {
        clock++;
        for (StageModel s : stages) {
            s.tokens = Math.min(s.depth, s.tokens + s.rate);
        }
        for (TimerModel t : List.copyOf(waiting)) {
            if (t.due == clock) {
                waiting.remove(t);
                Event event = new Event(t.value, clock);
                number(event);
                if (!offer(stages.get(t.stage), event)) {
                    lost++;
                }
            }
        }
        for (StageModel s : stages) {
            for (WorkerModel w : s.workers) {
                work(s, w);
            }
        }
        if (clock % 10 == 0) {
            for (StageModel s : stages) {
                control(s);
            }
        }
    }

    private void work(StageModel s, WorkerModel w) {
        if (!w.batch.isEmpty()) {
            w.rest = Math.max(0, w.rest - 1);
            if (w.rest == 0) {
                give(s, w);
            }
        }
        if (w.batch.isEmpty()) {
            List<Event> ahead = s.queue.subList(0, Math.min(s.batch, s.queue.size()));
            w.batch = List.copyOf(ahead);
            ahead.clear();
            w.rest = s.cost * w.batch.size();
        }
        w.idle.add(w.batch.isEmpty());
    }

    private void give(StageModel s, WorkerModel w) {
        if (w.gifts == null) {
            w.gifts = gifts(s, w.batch);
        }
        while (!w.gifts.isEmpty()) {
            Gift gift = w.gifts.peek();
            if (gift.event.number < 0) {
                number(gift.event);
            }
            if (!offer(gift.target, gift.event)) {
                return;
            }
            w.gifts.remove();
        }
        w.gifts = null;
        s.batches++;
        s.handled += w.batch.size();
        if (s.sort == 4) {
            for (Event event : w.batch) {
                done.add(event);
                s.times.add(clock - event.born);
            }
        }
        w.batch = List.of();
    }

    private Deque<Gift> gifts(StageModel s, List<Event> batch) {
        Deque<Gift> gifts = new ArrayDeque<>();
        int sum = 0;
        for (Event event : batch) {
            sum += event.value;
            boolean even = Math.floorMod(event.value, 2) == 0;
            if (s.sort <= 1 || (s.sort == 2 && even)) {
                addGift(gifts, s.first, event.value, event.born);
            }
            if (s.sort == 1 || (s.sort == 2 && !even)) {
                addGift(gifts, s.second, event.value, event.born);
            }
        }
        if (s.sort == 3) {
            addGift(gifts, s.first, sum, batch.get(0).born);
        }
        return gifts;
    }

    private void addGift(Deque<Gift> gifts, int target, int value, int born) {
        if (target != -1) {
            gifts.add(new Gift(new Event(value, born), stages.get(target)));
        }
    }

    private void control(StageModel s) {
        WorkerModel last = s.workers.get(s.workers.size() - 1);
        if (s.queue.size() > s.bound / 2 && s.workers.size() < s.cap) {
            s.workers.add(new WorkerModel());
        } else if (s.workers.size() > 1 && last.batch.isEmpty()
                && !last.idle.subList(Math.max(0, last.idle.size() - 10), last.idle.size()).contains(false)) {
            s.workers.remove(s.workers.size() - 1);
        }
        if (s.sort != 4 && s.queue.size() > s.batch && s.batch < 8) {
            s.batch++;
        } else if (s.sort != 4 && s.queue.isEmpty() && s.batch > 1) {
            s.batch--;
        }
        if (s.goal > 0 && !s.times.isEmpty()) {
            s.rate = response(s) > s.goal ? Math.max(1, s.rate * 3 / 4) : Math.min(100, s.rate + 1);
        }
    }

    private static int response(StageModel s) {
        if (s.times.isEmpty()) {
            return 0;
        }
        List<Integer> last = new ArrayList<>(s.times.subList(Math.max(0, s.times.size() - 20), s.times.size()));
        Collections.sort(last);
        return last.get(9 * last.size() / 10);
    }

    int told(int stage, int what) {
        if (no(stage) || what < 0 || what > 9) {
            return -1;
        }
        StageModel s = stages.get(stage);
        int[] all = {
            s.queue.size(), s.reserved, s.workers.size(), s.batch, s.rate, s.tokens, s.refused, s.batches, s.handled,
            response(s)
        };
        return all[what];
    }

    int queued(int stage, int i) {
        if (no(stage) || i < 0 || i >= stages.get(stage).queue.size()) {
            return -1;
        }
        return stages.get(stage).queue.get(i).number;
    }

    int worker(int stage, int worker, int what) {
        if (no(stage) || worker < 0 || worker >= stages.get(stage).workers.size() || what < 0 || what > 2) {
            return -1;
        }
        WorkerModel w = stages.get(stage).workers.get(worker);
        int[] all = {w.batch.size(), w.rest, w.gifts == null ? 0 : w.gifts.size()};
        return all[what];
    }

    int done(int i) {
        return i < 0 || i >= done.size() ? -1 : done.get(i).number;
    }

    int value(int i) {
        return i < 0 || i >= done.size() ? -1 : done.get(i).value;
    }

    int events() {
        return events;
    }

    int ended() {
        return done.size();
    }

    int lost() {
        return lost;
    }

    int clock() {
        return clock;
    }
}
