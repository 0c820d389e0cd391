/** The sorts by name, and desks in states that take several calls to reach. */
final class Desks {
    static final int COPY = 0;
    static final int SPLIT = 1;
    static final int ROUTE = 2;
    static final int SUM = 3;
    static final int END = 4;
    static final int NONE = -1;

    private Desks() {
    }

    static StageDesk with(int sort, int bound, int cap, int cost) {
        StageDesk desk = new StageDesk();
        desk.stage(sort, bound, cap, cost);
        return desk;
    }

    /** Stages of these sorts, each with bound 32, at most one worker and cost 0. */
    static StageDesk of(int... sorts) {
        StageDesk desk = new StageDesk();
        for (int sort : sorts) {
            desk.stage(sort, 32, 1, 0);
        }
        return desk;
    }

    /** So many events with one value into a queue, by few calls and without a token. */
    static void fill(StageDesk desk, int stage, int many, int value) {
        for (int left = many; left > 0; left -= 8) {
            desk.prepare(stage, Math.min(left, 8));
        }
        desk.commit(stage, value);
    }

    /**
     * For a stage without targets and with cost 0, at clock 0: at clock 12 its worker has no batch, its queue is
     * empty, 12 events were made, and its batch size is 2 till tick 20.
     */
    static void growBatchToTwo(StageDesk desk, int stage) {
        fill(desk, stage, 12, 0);
        desk.tick(12);
    }

    /**
     * Clock 1: stage 0, a COPY with cost 0, has one event in its only worker's hands, that can give nothing to the
     * END 1 as long as its only place is reserved: abort(1) sets it free.
     */
    static StageDesk stuck(int bound, int cap) {
        StageDesk desk = with(COPY, bound, cap, 0);
        desk.stage(END, 1, 1, 0);
        desk.targets(0, 1, NONE);
        desk.prepare(1, 1);
        desk.put(0, 1);
        desk.tick(1);
        return desk;
    }

    /** All that can be asked of a desk; some 20 calls for each stage. */
    static String state(StageDesk desk, int stages) {
        StringBuilder all = new StringBuilder();
        all.append(desk.clock()).append(' ').append(desk.events()).append(' ').append(desk.lost());
        for (int i = 0; i <= desk.ended(); i++) {
            all.append(" done ").append(desk.done(i)).append('=').append(desk.value(i));
        }
        for (int stage = 0; stage < stages; stage++) {
            all.append("\nstage ").append(stage);
            for (int what = 0; what < 10; what++) {
                all.append(' ').append(desk.told(stage, what));
            }
            for (int i = 0; i <= desk.told(stage, 0); i++) {
                all.append(" queued ").append(desk.queued(stage, i));
            }
            for (int worker = 0; worker < desk.told(stage, 2); worker++) {
                for (int what = 0; what < 3; what++) {
                    all.append(" worker ").append(desk.worker(stage, worker, what));
                }
            }
        }
        return all.toString();
    }
}
