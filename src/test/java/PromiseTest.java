/** Each promise by itself: ordinary inputs, the edges that the document names, and wrong inputs. */
public final class PromiseTest {
    private static final int BAD = StageDesk.BAD;
    private static final int FULL = StageDesk.FULL;
    private static final int SHUT = StageDesk.SHUT;
    private static final int SLOW = StageDesk.SLOW;

    private static final int COPY = 0;
    private static final int SPLIT = 1;
    private static final int SUM = 3;
    private static final int END = 4;

    private static final int[] NO_STAGES = {-1, 1, 8, Integer.MIN_VALUE, Integer.MAX_VALUE};

    private static final Checks checks = new Checks();

    public static void main(String[] args) {
        promise1NewObject();
        promise2Stage();
        promise3Targets();
        promise4Admit();
        promise5Put();
        promise6Prepare();
        promise7Commit();
        promise8Abort();
        promise9Timer();
        promise10Cancel();
        promise11Close();
        promise12Tick();
        promise13Told();
        promise14Queued();
        promise15Worker();
        promise16And17DoneAndValue();
        promise18To20Counts();
        promise21Clock();
        checks.end();
    }

    private static StageDesk deskWith(int sort, int bound, int cap, int cost) {
        StageDesk desk = new StageDesk();
        desk.stage(sort, bound, cap, cost);
        return desk;
    }

    private static void promise1NewObject() {
        checks.part("promise 1");
        StageDesk desk = new StageDesk();
        checks.due("clock()", desk.clock(), 0);
        checks.due("events()", desk.events(), 0);
        checks.due("ended()", desk.ended(), 0);
        checks.due("lost()", desk.lost(), 0);
        checks.due("told(0, 0)", desk.told(0, 0), BAD);
        desk.stage(COPY, 1, 1, 0);
        desk.put(0, 1);
        desk.tick(1);
        StageDesk other = new StageDesk();
        checks.due("clock() of another", other.clock(), 0);
        checks.due("events() of another", other.events(), 0);
        checks.due("put(0, 1) of another", other.put(0, 1), BAD);
    }

    private static void promise2Stage() {
        checks.part("promise 2");
        StageDesk desk = new StageDesk();
        int[][] wrong = {
            {-1, 1, 1, 0}, {5, 1, 1, 0}, {0, 0, 1, 0}, {0, 33, 1, 0}, {0, -1, 1, 0}, {0, 1, 0, 0}, {0, 1, 5, 0},
            {0, 1, 1, -1}, {0, 1, 1, 10}, {Integer.MAX_VALUE, 1, 1, 0}, {0, Integer.MIN_VALUE, 1, 0}
        };
        for (int[] w : wrong) {
            checks.due("a wrong stage", desk.stage(w[0], w[1], w[2], w[3]), BAD);
        }
        for (int i = 0; i < 8; i++) {
            checks.due("a stage", i % 2 == 0 ? desk.stage(i % 5, 32, 4, 9) : desk.stage(i % 5, 1, 1, 0), i);
            checks.told(desk, i, 0, 0, 1, 1, 100, 100, 0, 0, 0, 0);
        }
        checks.due("a ninth stage", desk.stage(0, 1, 1, 0), FULL);
        checks.due("a ninth stage that is wrong", desk.stage(0, 0, 1, 0), BAD);
        noTargetsAtFirst();
        depthAndRateAtFirst();
    }

    private static void noTargetsAtFirst() {
        StageDesk desk = deskWith(SPLIT, 4, 1, 0);
        desk.stage(END, 4, 1, 0);
        desk.put(0, 1);
        desk.tick(3);
        checks.due("events() without targets", desk.events(), 1);
        checks.told(desk, 0, 0, 0, 1, 1, 100, 100, 0, 1, 1, 0);
    }

    private static void depthAndRateAtFirst() {
        StageDesk desk = deskWith(END, 32, 1, 0);
        for (int i = 0; i < 5; i++) {
            desk.put(0, i);
        }
        checks.due("tokens", desk.told(0, 5), 95);
        desk.tick(1);
        checks.due("tokens, to the depth at most", desk.told(0, 5), 100);
    }

    private static void promise3Targets() {
        checks.part("promise 3");
        StageDesk desk = deskWith(SPLIT, 4, 1, 0);
        desk.stage(END, 4, 1, 0);
        desk.stage(END, 4, 1, 0);
        checks.due("targets(0, 1, 2)", desk.targets(0, 1, 2), 1);
        checks.due("targets(0, 3, 2)", desk.targets(0, 3, 2), BAD);
        checks.due("targets(0, 2, 3)", desk.targets(0, 2, 3), BAD);
        checks.due("targets(0, -2, 2)", desk.targets(0, -2, 2), BAD);
        checks.due("targets(0, 2, -2)", desk.targets(0, 2, -2), BAD);
        checks.due("targets(3, 1, 2)", desk.targets(3, 1, 2), BAD);
        checks.due("targets(-1, 1, 2)", desk.targets(-1, 1, 2), BAD);
        desk.put(0, 7);
        desk.tick(3);
        checks.ended(desk, 1, 7, 2, 7);
        checks.due("first target's share", desk.told(1, 7), 1);
        checks.due("second target's share", desk.told(2, 7), 1);
        checks.due("targets(0, -1, 2)", desk.targets(0, -1, 2), 1);
        desk.put(0, 8);
        desk.tick(3);
        checks.ended(desk, 1, 7, 2, 7, 4, 8);
        checks.due("targets(0, -1, -1)", desk.targets(0, -1, -1), 1);
        desk.put(0, 9);
        desk.tick(3);
        checks.due("events()", desk.events(), 6);
        checks.due("targets(0, 0, 0), itself", desk.targets(0, 0, 0), 1);
    }

    private static void promise4Admit() {
        checks.part("promise 4");
        StageDesk desk = deskWith(END, 32, 1, 0);
        int[][] wrong = {
            {-1, 1, 1, 1}, {1, 1, 1, 1}, {0, -1, 1, 1}, {0, 101, 1, 1}, {0, 1, 0, 1}, {0, 1, 101, 1}, {0, 1, -1, 1},
            {0, 1, 1, -1}, {0, 1, 1, 1001}
        };
        for (int[] w : wrong) {
            checks.due("a wrong admit", desk.admit(w[0], w[1], w[2], w[3]), BAD);
        }
        checks.told(desk, 0, 0, 0, 1, 1, 100, 100);
        checks.due("the largest", desk.admit(0, 100, 100, 1000), 1);
        checks.due("the least", desk.admit(0, 0, 1, 0), 1);
        checks.told(desk, 0, 0, 0, 1, 1, 0, 1);
        checks.due("a depth that grows", desk.admit(0, 3, 8, 0), 1);
        checks.due("tokens do not grow with it", desk.told(0, 5), 1);
        int[] tokens = {4, 7, 8, 8};
        for (int want : tokens) {
            desk.tick(1);
            checks.due("tokens", desk.told(0, 5), want);
        }
        desk.close(0);
        checks.due("a closed stage", desk.admit(0, 5, 2, 0), 1);
        checks.told(desk, 0, 0, 0, 1, 1, 5, 2);
    }

    private static void promise5Put() {
        checks.part("promise 5");
        StageDesk desk = deskWith(COPY, 2, 1, 0);
        for (int stage : NO_STAGES) {
            checks.due("put(" + stage + ", 1)", desk.put(stage, 1), BAD);
        }
        checks.due("put(0, MIN)", desk.put(0, Integer.MIN_VALUE), 0);
        checks.due("put(0, -1)", desk.put(0, -1), 1);
        checks.due("put, no place", desk.put(0, 3), FULL);
        checks.due("tokens: one less for each that was taken", desk.told(0, 5), 98);
        checks.due("events(): none for what was refused", desk.events(), 2);
        checks.due("refused", desk.told(0, 6), 1);
        checks.queue(desk, 0, 0, 1);
        desk.admit(0, 0, 1, 0);
        desk.tick(2);
        checks.due("put, the last token", desk.put(0, 3), 2);
        checks.due("put, no token", desk.put(0, 3), SLOW);
        checks.due("refused", desk.told(0, 6), 2);
        desk.prepare(0, 1);
        checks.due("put, neither place nor token", desk.put(0, 3), FULL);
        desk.close(0);
        checks.due("put, closed, and neither place nor token", desk.put(0, 3), SHUT);
        checks.due("refused", desk.told(0, 6), 4);
        checks.due("events()", desk.events(), 3);
    }

    private static void promise6Prepare() {
        checks.part("promise 6");
        StageDesk desk = deskWith(COPY, 12, 1, 0);
        for (int stage : NO_STAGES) {
            checks.due("prepare(" + stage + ", 1)", desk.prepare(stage, 1), BAD);
        }
        checks.due("prepare(0, 0)", desk.prepare(0, 0), BAD);
        checks.due("prepare(0, 9)", desk.prepare(0, 9), BAD);
        checks.due("prepare(0, -1)", desk.prepare(0, -1), BAD);
        checks.due("prepare(0, 8)", desk.prepare(0, 8), 1);
        desk.put(0, 1);
        checks.due("prepare(0, 4), one too many", desk.prepare(0, 4), FULL);
        checks.due("nothing is reserved by it", desk.told(0, 1), 8);
        checks.due("prepare(0, 3), the last ones", desk.prepare(0, 3), 1);
        checks.due("prepare(0, 1)", desk.prepare(0, 1), FULL);
        checks.told(desk, 0, 1, 11, 1, 1, 100, 99, 0);
        checks.due("a put finds no place", desk.put(0, 2), FULL);
        desk.close(0);
        checks.due("prepare, closed", desk.prepare(0, 1), SHUT);
        checks.due("prepare, closed and wrong", desk.prepare(0, 9), BAD);
        checks.due("reserved", desk.told(0, 1), 11);
        checks.due("refused: the put alone", desk.told(0, 6), 1);
    }

    private static void promise7Commit() {
        checks.part("promise 7");
        StageDesk desk = deskWith(COPY, 4, 1, 0);
        for (int stage : NO_STAGES) {
            checks.due("commit(" + stage + ", 1)", desk.commit(stage, 1), BAD);
        }
        checks.due("commit, none reserved", desk.commit(0, 1), BAD);
        desk.stage(END, 4, 1, 0);
        desk.targets(0, 1, -1);
        desk.put(0, 5);
        desk.prepare(0, 2);
        desk.prepare(0, 1);
        desk.admit(0, 0, 1, 0);
        checks.due("commit(0, 6)", desk.commit(0, 6), 1);
        checks.queue(desk, 0, 0, 1, 2, 3);
        checks.due("events()", desk.events(), 4);
        checks.due("reserved", desk.told(0, 1), 0);
        checks.due("tokens: none taken", desk.told(0, 5), 1);
        checks.due("commit again", desk.commit(0, 6), BAD);
        desk.tick(6);
        checks.ended(desk, 4, 5, 5, 6, 6, 6, 7, 6);
        desk.put(0, 1);
        desk.prepare(0, 1);
        checks.due("commit without a token", desk.commit(0, 6), 9);
        desk.prepare(0, 1);
        desk.close(0);
        checks.due("commit, closed", desk.commit(0, 6), SHUT);
        checks.due("they stay reserved", desk.told(0, 1), 1);
        checks.due("refused: a commit is no offer", desk.told(0, 6), 0);
        desk.abort(0);
        checks.due("commit, closed and none reserved", desk.commit(0, 6), BAD);
    }

    private static void promise8Abort() {
        checks.part("promise 8");
        StageDesk desk = deskWith(COPY, 12, 1, 0);
        for (int stage : NO_STAGES) {
            checks.due("abort(" + stage + ")", desk.abort(stage), BAD);
        }
        checks.due("abort, none reserved", desk.abort(0), 0);
        desk.prepare(0, 8);
        desk.prepare(0, 4);
        checks.due("abort", desk.abort(0), 12);
        checks.due("reserved", desk.told(0, 1), 0);
        checks.due("the places are free", desk.put(0, 1), 0);
        desk.prepare(0, 2);
        desk.close(0);
        checks.due("abort, closed", desk.abort(0), 2);
        checks.due("abort again", desk.abort(0), 0);
    }

    private static void promise9Timer() {
        checks.part("promise 9");
        StageDesk desk = deskWith(END, 32, 1, 9);
        for (int stage : NO_STAGES) {
            checks.due("timer(" + stage + ", 1, 1)", desk.timer(stage, 1, 1), BAD);
        }
        checks.due("timer(0, 1, 0)", desk.timer(0, 1, 0), BAD);
        checks.due("timer(0, 1, -1)", desk.timer(0, 1, -1), BAD);
        checks.due("timer(0, 1, 1001)", desk.timer(0, 1, 1001), BAD);
        checks.due("timer(0, 1, 1000)", desk.timer(0, 1, 1000), 0);
        checks.due("timer(0, 1, 3)", desk.timer(0, 1, 3), 1);
        for (int i = 2; i < 50; i++) {
            checks.due("timer " + i, desk.timer(0, 1, 1000), i);
        }
        checks.due("timer, 50 wait", desk.timer(0, 1, 1), FULL);
        checks.due("timer, 50 wait, and wrong", desk.timer(0, 1, 0), BAD);
        desk.tick(2);
        checks.due("events(), before it is due", desk.events(), 0);
        desk.tick(1);
        checks.due("events(), when it is due", desk.events(), 1);
        checks.due("timer, 49 wait", desk.timer(0, 1, 1), 50);
        desk.close(0);
        desk.tick(1);
        checks.due("timer to a closed stage", desk.timer(0, 1, 1), 51);
        bornWhenDue();
    }

    private static void bornWhenDue() {
        StageDesk desk = deskWith(END, 32, 1, 2);
        desk.timer(0, 1, 5);
        desk.tick(7);
        checks.ended(desk, 0, 1);
        checks.due("the time from birth, which is when it was due", desk.told(0, 9), 2);
    }

    private static void promise10Cancel() {
        checks.part("promise 10");
        StageDesk desk = deskWith(COPY, 32, 1, 9);
        checks.due("cancel(0), none set", desk.cancel(0), BAD);
        for (int i = 0; i < 50; i++) {
            desk.timer(0, i, 1 + i % 2);
        }
        checks.due("cancel(-1)", desk.cancel(-1), BAD);
        checks.due("cancel(50)", desk.cancel(50), BAD);
        checks.due("cancel(MAX)", desk.cancel(Integer.MAX_VALUE), BAD);
        checks.due("cancel(2)", desk.cancel(2), 1);
        checks.due("cancel(2) again", desk.cancel(2), BAD);
        checks.due("timer in its room, with a new number", desk.timer(0, 1, 400), 50);
        desk.tick(1);
        checks.due("events(), without the one", desk.events(), 24);
        checks.due("cancel(0), no more waiting", desk.cancel(0), BAD);
        checks.due("cancel(49), that waits", desk.cancel(49), 1);
        checks.due("cancel(50), that waits", desk.cancel(50), 1);
        desk.tick(1);
        checks.due("events()", desk.events(), 48);
    }

    private static void promise11Close() {
        checks.part("promise 11");
        StageDesk desk = deskWith(END, 4, 1, 0);
        for (int stage : NO_STAGES) {
            checks.due("close(" + stage + ")", desk.close(stage), BAD);
        }
        desk.put(0, 1);
        desk.put(0, 2);
        checks.due("close(0)", desk.close(0), 1);
        checks.due("close(0) again", desk.close(0), SHUT);
        checks.due("put", desk.put(0, 3), SHUT);
        desk.tick(3);
        checks.ended(desk, 0, 1, 1, 2);
        desk.timer(0, 1, 1);
        desk.tick(1);
        checks.due("lost()", desk.lost(), 1);
        checks.due("refused", desk.told(0, 6), 2);
    }

    private static void promise12Tick() {
        checks.part("promise 12");
        StageDesk desk = new StageDesk();
        int[] wrong = {0, -1, 51, Integer.MIN_VALUE, Integer.MAX_VALUE};
        for (int many : wrong) {
            checks.due("tick(" + many + ")", desk.tick(many), BAD);
        }
        checks.due("tick(1)", desk.tick(1), 1);
        for (int i = 1; i < 8; i++) {
            checks.due("tick(50)", desk.tick(50), 1 + 50 * i);
        }
        checks.due("tick(50)", desk.tick(50), FULL);
        checks.due("none is made", desk.clock(), 351);
        checks.due("tick(49)", desk.tick(49), 400);
        checks.due("tick(1)", desk.tick(1), FULL);
        checks.due("tick(51)", desk.tick(51), BAD);
    }

    private static void promise13Told() {
        checks.part("promise 13");
        StageDesk desk = deskWith(COPY, 6, 1, 0);
        desk.stage(END, 1, 1, 3);
        for (int what = 0; what < 10; what++) {
            checks.due("told(-1, " + what + ")", desk.told(-1, what), BAD);
            checks.due("told(2, " + what + ")", desk.told(2, what), BAD);
        }
        checks.due("told(0, -1)", desk.told(0, -1), BAD);
        checks.due("told(0, 10)", desk.told(0, 10), BAD);
        desk.targets(0, 1, -1);
        desk.admit(0, 2, 50, 0);
        for (int i = 0; i < 4; i++) {
            desk.put(0, i);
        }
        desk.prepare(0, 2);
        desk.put(0, 9);
        checks.told(desk, 0, 4, 2, 1, 1, 2, 46, 1, 0, 0, 0);
        desk.tick(3);
        checks.told(desk, 0, 1, 2, 1, 1, 2, 50, 1, 2, 2, 0);
        checks.told(desk, 1, 1, 0, 1, 1, 100, 99, 0, 0, 0, 0);
        desk.tick(1);
        checks.told(desk, 0, 1, 2, 1, 1, 2, 50, 1, 2, 2, 0);
        checks.told(desk, 1, 1, 0, 1, 1, 100, 100, 1, 0, 0, 0);
        desk.tick(1);
        checks.told(desk, 1, 0, 0, 1, 1, 100, 100, 2, 1, 1, 5);
    }

    private static void promise14Queued() {
        checks.part("promise 14");
        StageDesk desk = deskWith(COPY, 3, 1, 0);
        desk.stage(END, 3, 1, 0);
        checks.due("queued, empty", desk.queued(0, 0), BAD);
        desk.put(0, 5);
        desk.put(1, 5);
        desk.put(0, 5);
        checks.queue(desk, 0, 0, 2);
        checks.queue(desk, 1, 1);
        checks.due("queued(0, -1)", desk.queued(0, -1), BAD);
        checks.due("queued(0, MAX)", desk.queued(0, Integer.MAX_VALUE), BAD);
        for (int stage : new int[] {-1, 2, Integer.MIN_VALUE, Integer.MAX_VALUE}) {
            checks.due("queued(" + stage + ", 0)", desk.queued(stage, 0), BAD);
        }
        desk.prepare(0, 1);
        checks.due("a reserved place is no event", desk.queued(0, 2), BAD);
        desk.tick(1);
        checks.queue(desk, 0, 2);
        checks.queue(desk, 1);
    }

    private static void promise15Worker() {
        checks.part("promise 15");
        StageDesk desk = deskWith(SPLIT, 4, 4, 2);
        desk.stage(END, 1, 1, 9);
        desk.targets(0, 1, 1);
        int[][] wrong = {{-1, 0, 0}, {2, 0, 0}, {0, -1, 0}, {0, 1, 0}, {0, 4, 0}, {0, 0, -1}, {0, 0, 3}};
        for (int[] w : wrong) {
            checks.due("a wrong worker", desk.worker(w[0], w[1], w[2]), BAD);
        }
        checks.worker(desk, 0, 0, 0, 0, 0);
        desk.put(0, 1);
        desk.put(0, 2);
        desk.tick(1);
        checks.worker(desk, 0, 0, 1, 2, 0);
        desk.tick(1);
        checks.worker(desk, 0, 0, 1, 1, 0);
        desk.tick(1);
        checks.worker(desk, 0, 0, 1, 0, 1);
        checks.worker(desk, 1, 0, 1, 9, 0);
        desk.tick(1);
        checks.worker(desk, 0, 0, 1, 2, 0);
        checks.worker(desk, 1, 0, 1, 8, 0);
        desk.tick(2);
        checks.worker(desk, 0, 0, 1, 0, 2);
    }

    private static void promise16And17DoneAndValue() {
        checks.part("promises 16 and 17");
        StageDesk desk = deskWith(END, 9, 1, 2);
        desk.stage(END, 9, 1, 0);
        desk.put(0, Integer.MIN_VALUE);
        desk.put(1, -1);
        desk.put(1, 30);
        checks.ended(desk);
        checks.due("done(0)", desk.done(0), BAD);
        checks.due("value(0)", desk.value(0), BAD);
        desk.tick(3);
        checks.ended(desk, 1, -1, 0, Integer.MIN_VALUE, 2, 30);
        int[] wrong = {-1, 3, Integer.MIN_VALUE, Integer.MAX_VALUE};
        for (int i : wrong) {
            checks.due("done(" + i + ")", desk.done(i), BAD);
            checks.due("value(" + i + ")", desk.value(i), BAD);
        }
    }

    private static void promise18To20Counts() {
        checks.part("promises 18 to 20");
        StageDesk desk = deskWith(SUM, 4, 1, 0);
        desk.stage(END, 1, 1, 9);
        desk.targets(0, 1, -1);
        desk.put(0, 1);
        desk.prepare(0, 3);
        desk.put(0, 1);
        desk.commit(0, 2);
        checks.due("events(): put and commit, not what was refused", desk.events(), 4);
        desk.timer(0, 1, 1);
        desk.timer(1, 1, 1);
        desk.timer(1, 1, 1);
        checks.due("events(): a timer makes none yet", desk.events(), 4);
        desk.tick(1);
        checks.due("events(): all that were due, the lost ones too", desk.events(), 7);
        checks.due("lost()", desk.lost(), 2);
        desk.tick(1);
        checks.due("events(): one that a batch gave", desk.events(), 8);
        checks.due("ended(), none yet", desk.ended(), 0);
        desk.tick(1);
        checks.due("events(): one that was refused, made once", desk.events(), 9);
        desk.tick(5);
        checks.due("events(): not made anew", desk.events(), 9);
        desk.tick(2);
        checks.due("ended()", desk.ended(), 1);
        checks.due("lost(): not what a stage refuses a worker", desk.lost(), 2);
    }

    private static void promise21Clock() {
        checks.part("promise 21");
        StageDesk desk = new StageDesk();
        desk.tick(7);
        desk.tick(0);
        desk.tick(50);
        desk.tick(99);
        checks.due("clock()", desk.clock(), 57);
        desk.stage(COPY, 1, 1, 0);
        desk.put(0, 1);
        checks.due("clock()", desk.clock(), 57);
    }
}
