/** The boundary cases that the document's Terms name: numbers, sorts and targets, and the offer. */
public final class TermsBoundaryTest {
    private static final int BAD = StageDesk.BAD;
    private static final int FULL = StageDesk.FULL;
    private static final int SHUT = StageDesk.SHUT;
    private static final int SLOW = StageDesk.SLOW;
    private static final int NONE = Desks.NONE;
    private static final int MIN = Integer.MIN_VALUE;
    private static final int MAX = Integer.MAX_VALUE;

    private static final Checks checks = new Checks();

    public static void main(String[] args) {
        timeStartsAtZero();
        eventsHaveOneNumbering();
        birthIsHandedOn();
        eightStagesAreTheMost();
        targetsMayBeNone();
        copyOfABatch();
        copyWithoutAFirstTarget();
        splitToEachPairOfTargets();
        routeByEachParity();
        routeToNoTarget();
        sumOfABatchGivesOne();
        sumWrapsAround();
        sumIsBornWithTheFirst();
        endGivesNone();
        nothingIsMadeForNoTarget();
        boundsFromOneTo32();
        tokensAtFirst();
        oneWorkerAtFirst();
        batchCostAndGoalAtFirst();
        openTillClosed();
        offersToAClosedStage();
        offersToAFullStage();
        offersWithoutAToken();
        offersThatAreTaken();
        commitTakesNeitherPlaceNorToken();
        checks.end();
    }

    private static void timeStartsAtZero() {
        checks.sentence("Terms", "TIME goes by TICKS, from 0.");
        StageDesk desk = new StageDesk();
        checks.due("clock()", desk.clock(), 0);
        checks.due("tick(1)", desk.tick(1), 1);
        checks.due("clock()", desk.clock(), 1);
    }

    private static void eventsHaveOneNumbering() {
        checks.sentence("Terms", "EVENTS are numbered from 0 as they are made;");
        StageDesk desk = Desks.of(Desks.COPY, Desks.END);
        desk.targets(0, 1, NONE);
        checks.due("the first one, put", desk.put(1, 5), 0);
        desk.prepare(0, 2);
        checks.due("two by commit, of another stage", desk.commit(0, 6), 1);
        desk.timer(1, 7, 1);
        desk.tick(1);
        checks.due("one by a timer", desk.queued(1, 0), 3);
        desk.tick(1);
        checks.due("one that a batch gave", desk.queued(1, 0), 4);
        checks.due("the next one, put", desk.put(0, 8), 5);
    }

    private static void birthIsHandedOn() {
        checks.sentence("Terms",
                "each has a VALUE and the tick at which it was BORN (that of the event from which it came).");
        StageDesk desk = Desks.of(Desks.COPY, Desks.SPLIT, Desks.ROUTE, Desks.SUM, Desks.END);
        desk.targets(0, 1, NONE);
        desk.targets(1, 2, NONE);
        desk.targets(2, 3, NONE);
        desk.targets(3, 4, NONE);
        desk.tick(5);
        desk.put(0, 8);
        desk.tick(6);
        checks.ended(desk, 4, 8);
        checks.due("the time since the event was put, four stages before", desk.told(4, 9), 6);
        StageDesk behind = Desks.of(Desks.END);
        behind.put(0, 1);
        behind.put(0, 2);
        behind.tick(1);
        behind.put(0, 3);
        behind.tick(3);
        checks.due("born at 0, 0 and 1 in one queue, done at 2, 3 and 4", behind.told(0, 9), 3);
    }

    private static void eightStagesAreTheMost() {
        checks.sentence("Terms", "STAGES are numbered from 0, at most 8.");
        StageDesk desk = new StageDesk();
        for (int i = 0; i < 8; i++) {
            checks.due("stage", desk.stage(i % 5, 1, 1, 0), i);
        }
        checks.due("the ninth", desk.stage(0, 1, 1, 0), FULL);
        checks.due("put(7, 1)", desk.put(7, 1), 0);
        checks.due("put(8, 1)", desk.put(8, 1), BAD);
    }

    private static void targetsMayBeNone() {
        checks.sentence("Terms", "A stage has a SORT and up to two TARGETS (stages, -1 for none):");
        int[][] pairs = {{NONE, NONE}, {0, NONE}, {NONE, 0}, {0, 1}, {1, 1}, {0, 0}};
        for (int sort = 0; sort < 5; sort++) {
            StageDesk desk = Desks.of(sort, Desks.END);
            for (int[] pair : pairs) {
                checks.due("targets of sort " + sort, desk.targets(0, pair[0], pair[1]), 1);
            }
        }
    }

    /** Clock 12: stage 2 has batches of two; the ENDs 0 and 1 work before it, so that what they get stays in queues. */
    private static StageDesk deskOfPairs(int sort, int first, int second) {
        StageDesk desk = Desks.of(Desks.END, Desks.END, sort);
        Desks.growBatchToTwo(desk, 2);
        desk.targets(2, first, second);
        return desk;
    }

    private static void copyOfABatch() {
        checks.sentence("Terms", "0 COPY: each event of a batch gives one with its value for the first target.");
        StageDesk desk = deskOfPairs(Desks.COPY, 0, 1);
        desk.put(2, 7);
        desk.put(2, MIN);
        desk.tick(1);
        checks.worker(desk, 2, 0, 2, 0, 0);
        desk.tick(1);
        checks.queue(desk, 0, 14, 15);
        checks.queue(desk, 1);
        desk.tick(3);
        checks.ended(desk, 14, 7, 15, MIN);
    }

    private static void copyWithoutAFirstTarget() {
        checks.sentence("Terms", "0 COPY: each event of a batch gives one with its value for the first target.");
        StageDesk desk = deskOfPairs(Desks.COPY, NONE, 1);
        desk.put(2, 7);
        desk.tick(2);
        checks.due("events(): the one that was put alone", desk.events(), 13);
        checks.queue(desk, 1);
        checks.worker(desk, 2, 0, 0, 0, 0);
    }

    private static void splitToEachPairOfTargets() {
        checks.sentence("Terms", "1 SPLIT: one for the first, then one for the second target.");
        int[] none = {};
        split(0, 1, new int[] {1}, new int[] {2});
        split(1, 0, new int[] {2}, new int[] {1});
        split(0, 0, new int[] {1, 2}, none);
        split(0, NONE, new int[] {1}, none);
        split(NONE, 1, none, new int[] {1});
        split(NONE, NONE, none, none);
        StageDesk desk = deskOfPairs(Desks.SPLIT, 0, 1);
        desk.put(2, 7);
        desk.put(2, 8);
        desk.tick(2);
        checks.queue(desk, 0, 14, 16);
        checks.queue(desk, 1, 15, 17);
        desk.tick(3);
        checks.ended(desk, 14, 7, 15, 7, 16, 8, 17, 8);
    }

    /** One event, 0, that is split for the ENDs 0 and 1; what they have in their queues then. */
    private static void split(int first, int second, int[] queue0, int[] queue1) {
        StageDesk desk = Desks.of(Desks.END, Desks.END, Desks.SPLIT);
        desk.targets(2, first, second);
        desk.put(2, 5);
        desk.tick(2);
        checks.queue(desk, 0, queue0);
        checks.queue(desk, 1, queue1);
        checks.due("events()", desk.events(), 1 + queue0.length + queue1.length);
    }

    private static void routeByEachParity() {
        checks.sentence("Terms", "2 ROUTE: one for the first target if its value is even, else for the second.");
        for (int even : new int[] {0, 2, -2, MIN, MAX - 1}) {
            route(even, new int[] {1}, new int[] {});
        }
        for (int odd : new int[] {1, -1, -3, MAX, MIN + 1}) {
            route(odd, new int[] {}, new int[] {1});
        }
    }

    private static void route(int value, int[] queue0, int[] queue1) {
        StageDesk desk = Desks.of(Desks.END, Desks.END, Desks.ROUTE);
        desk.targets(2, 0, 1);
        desk.put(2, value);
        desk.tick(2);
        checks.queue(desk, 0, queue0);
        checks.queue(desk, 1, queue1);
        desk.tick(2);
        checks.ended(desk, 1, value);
    }

    private static void routeToNoTarget() {
        checks.sentence("Terms", "2 ROUTE: one for the first target if its value is even, else for the second.");
        StageDesk desk = Desks.of(Desks.END, Desks.END, Desks.ROUTE);
        desk.targets(2, NONE, 1);
        desk.put(2, 4);
        desk.tick(2);
        checks.due("events(): an even one without a first target", desk.events(), 1);
        desk.targets(2, 0, NONE);
        desk.put(2, 3);
        desk.tick(2);
        checks.due("events(): an odd one without a second target", desk.events(), 2);
        checks.due("batches handled", desk.told(2, 7), 2);
    }

    private static void sumOfABatchGivesOne() {
        checks.sentence("Terms", "3 SUM: a batch gives one event for the first target,");
        StageDesk one = deskOfPairs(Desks.SUM, 0, 1);
        one.put(2, 7);
        one.tick(2);
        checks.queue(one, 0, 13);
        checks.queue(one, 1);
        one.tick(2);
        checks.ended(one, 13, 7);
        StageDesk two = deskOfPairs(Desks.SUM, 0, 1);
        two.put(2, 7);
        two.put(2, 8);
        two.tick(2);
        checks.queue(two, 0, 14);
        checks.queue(two, 1);
        two.put(2, 100);
        two.tick(4);
        checks.ended(two, 14, 15, 16, 100);
        StageDesk none = deskOfPairs(Desks.SUM, NONE, 1);
        none.put(2, 7);
        none.tick(2);
        checks.due("events() without a first target", none.events(), 13);
        checks.queue(none, 1);
    }

    private static void sumWrapsAround() {
        checks.sentence("Terms", "with the sum of its values (modulo 2^32),");
        int[][] sums = {
            {MAX, 1, MIN}, {MIN, -1, MAX}, {MIN, MIN, 0}, {MAX, MAX, -2}, {MAX, 0, MAX}, {-1, 1, 0}, {-1, 0, -1}
        };
        for (int[] s : sums) {
            StageDesk desk = deskOfPairs(Desks.SUM, 0, NONE);
            desk.put(2, s[0]);
            desk.put(2, s[1]);
            desk.tick(4);
            checks.ended(desk, 14, s[2]);
        }
    }

    private static void sumIsBornWithTheFirst() {
        checks.sentence("Terms", "born when the first one of the batch was.");
        StageDesk older = Desks.of(Desks.SUM, Desks.END);
        Desks.growBatchToTwo(older, 0);
        older.targets(0, 1, NONE);
        older.put(0, 1);
        older.timer(0, 2, 1);
        older.tick(3);
        checks.ended(older, 14, 3);
        checks.due("the first one born at 12, the second at 13, done at 15", older.told(1, 9), 3);
        StageDesk younger = Desks.of(Desks.COPY, Desks.SUM, Desks.END);
        Desks.growBatchToTwo(younger, 1);
        younger.targets(0, 1, NONE);
        younger.targets(1, 2, NONE);
        younger.put(0, 1);
        younger.tick(1);
        younger.put(1, 2);
        younger.tick(3);
        checks.ended(younger, 15, 3);
        checks.due("the first one born at 13, the second at 12, done at 16", younger.told(2, 9), 3);
    }

    private static void endGivesNone() {
        checks.sentence("Terms", "4 END: none.");
        StageDesk desk = Desks.of(Desks.END, Desks.END);
        desk.targets(0, 1, 1);
        desk.put(0, 4);
        desk.tick(5);
        checks.due("events()", desk.events(), 1);
        checks.ended(desk, 0, 4);
    }

    private static void nothingIsMadeForNoTarget() {
        checks.sentence("Terms", "(An event for no target is not made.)");
        for (int sort = Desks.COPY; sort < Desks.END; sort++) {
            StageDesk desk = Desks.of(sort);
            desk.put(0, sort);
            desk.tick(2);
            checks.due("events() of sort " + sort, desk.events(), 1);
            checks.due("the batch is handled", desk.told(0, 7), 1);
            checks.worker(desk, 0, 0, 0, 0, 0);
            checks.due("lost()", desk.lost(), 0);
        }
    }

    private static void boundsFromOneTo32() {
        checks.sentence("Terms", "A stage has a QUEUE with a BOUND; RESERVED places;");
        for (int bound : new int[] {1, 2, 31, 32}) {
            StageDesk desk = Desks.with(Desks.COPY, bound, 1, 0);
            for (int i = 0; i < bound; i++) {
                checks.due("put " + i + " with bound " + bound, desk.put(0, i), i);
            }
            checks.due("one too many with bound " + bound, desk.put(0, 0), FULL);
            checks.due("a place too many with bound " + bound, desk.prepare(0, 1), FULL);
            checks.due("the queue's length", desk.told(0, 0), bound);
            checks.due("none reserved", desk.told(0, 1), 0);
        }
    }

    private static void tokensAtFirst() {
        checks.sentence("Terms", "TOKENS (at first as many as its DEPTH) and a RATE;");
        StageDesk desk = Desks.of(Desks.END);
        desk.admit(0, 0, 100, 0);
        for (int i = 0; i < 100; i++) {
            checks.due("tokens", desk.told(0, 5), 100 - i);
            checks.due("put", desk.put(0, 1), i);
            desk.tick(1);
        }
        checks.due("tokens", desk.told(0, 5), 0);
        checks.due("put, the 101st", desk.put(0, 1), SLOW);
    }

    private static void oneWorkerAtFirst() {
        checks.sentence("Terms", "WORKERS (at first 1) and a CAP for them;");
        for (int cap = 1; cap <= 4; cap++) {
            StageDesk desk = Desks.with(Desks.COPY, 32, cap, 0);
            checks.due("workers with cap " + cap, desk.told(0, 2), 1);
            checks.due("worker(0, 0, 0)", desk.worker(0, 0, 0), 0);
            checks.due("worker(0, 1, 0)", desk.worker(0, 1, 0), BAD);
        }
    }

    private static void batchCostAndGoalAtFirst() {
        checks.sentence("Terms", "a BATCH size; a COST; a GOAL.");
        for (int cost = 0; cost <= 9; cost++) {
            StageDesk desk = Desks.with(Desks.END, 32, 1, cost);
            Desks.fill(desk, 0, 32, 1);
            desk.tick(1);
            checks.worker(desk, 0, 0, 1, cost, 0);
            desk.tick(39);
            checks.due("the rate, without a goal", desk.told(0, 4), 100);
        }
    }

    private static void openTillClosed() {
        checks.sentence("Terms", "It is OPEN till it is closed.");
        StageDesk desk = Desks.of(Desks.END, Desks.END);
        desk.tick(50);
        checks.due("put", desk.put(0, 1), 0);
        desk.close(0);
        checks.due("put", desk.put(0, 1), SHUT);
        checks.due("put to another stage", desk.put(1, 1), 1);
        desk.tick(50);
        checks.due("put, later", desk.put(0, 1), SHUT);
    }

    /** Clock 1: the END 0, with bound 3, has a batch till tick 10, so that its queue stays; the COPY 1 gives to it. */
    private static StageDesk meeting(boolean closed, int waiting, int reserved, boolean token) {
        StageDesk desk = Desks.with(Desks.END, 3, 1, 9);
        desk.stage(Desks.COPY, 3, 1, 0);
        desk.targets(1, 0, NONE);
        desk.admit(0, 0, token ? 2 : 1, 0);
        desk.put(0, 0);
        desk.tick(1);
        Desks.fill(desk, 0, waiting, 0);
        if (reserved > 0) {
            desk.prepare(0, reserved);
        }
        if (closed) {
            desk.close(0);
        }
        checks.told(desk, 0, waiting, reserved, 1, 1, 0, token ? 1 : 0, 0);
        return desk;
    }

    /** By put, by a timer and by a worker. */
    private static void refused(boolean closed, int waiting, int reserved, boolean token, int why) {
        StageDesk byPut = meeting(closed, waiting, reserved, token);
        checks.due("put", byPut.put(0, 1), why);
        checks.due("events()", byPut.events(), 1 + waiting);
        checks.due("lost()", byPut.lost(), 0);
        checks.told(byPut, 0, waiting, reserved, 1, 1, 0, token ? 1 : 0, 1);
        StageDesk byTimer = meeting(closed, waiting, reserved, token);
        byTimer.timer(0, 1, 1);
        byTimer.tick(1);
        checks.due("lost()", byTimer.lost(), 1);
        checks.told(byTimer, 0, waiting, reserved, 1, 1, 0, token ? 1 : 0, 1);
        StageDesk byWorker = meeting(closed, waiting, reserved, token);
        byWorker.put(1, 1);
        byWorker.tick(2);
        checks.worker(byWorker, 1, 0, 1, 0, 1);
        checks.due("lost()", byWorker.lost(), 0);
        checks.told(byWorker, 0, waiting, reserved, 1, 1, 0, token ? 1 : 0, 1);
    }

    private static void offersToAClosedStage() {
        checks.sentence("Terms", "TO OFFER an event to a stage: it is REFUSED, when the stage is closed;");
        refused(true, 0, 0, true, SHUT);
        refused(true, 3, 0, true, SHUT);
        refused(true, 1, 2, false, SHUT);
        refused(true, 0, 0, false, SHUT);
    }

    private static void offersToAFullStage() {
        checks.sentence("Terms",
                "else when events in the queue and reserved places together are as many as its bound;");
        refused(false, 3, 0, true, FULL);
        refused(false, 0, 3, true, FULL);
        refused(false, 2, 1, true, FULL);
        refused(false, 1, 2, true, FULL);
        refused(false, 3, 0, false, FULL);
        refused(false, 0, 3, false, FULL);
    }

    private static void offersWithoutAToken() {
        checks.sentence("Terms", "else when it has no token.");
        refused(false, 0, 0, false, SLOW);
        refused(false, 2, 0, false, SLOW);
        refused(false, 0, 2, false, SLOW);
    }

    private static void offersThatAreTaken() {
        checks.sentence("Terms", "Else it stands last in the queue, and there is a token less.");
        int[][] waitingAndReserved = {{0, 0}, {2, 0}, {0, 2}, {1, 1}};
        for (int[] w : waitingAndReserved) {
            StageDesk byPut = meeting(false, w[0], w[1], true);
            checks.due("put, the last token", byPut.put(0, 1), 1 + w[0]);
            taken(byPut, w[0], w[1], 1 + w[0]);
            StageDesk byTimer = meeting(false, w[0], w[1], true);
            byTimer.timer(0, 1, 1);
            byTimer.tick(1);
            taken(byTimer, w[0], w[1], 1 + w[0]);
            StageDesk byWorker = meeting(false, w[0], w[1], true);
            byWorker.put(1, 1);
            byWorker.tick(2);
            checks.worker(byWorker, 1, 0, 0, 0, 0);
            taken(byWorker, w[0], w[1], 2 + w[0]);
        }
    }

    private static void taken(StageDesk desk, int waiting, int reserved, int number) {
        checks.told(desk, 0, waiting + 1, reserved, 1, 1, 0, 0, 0);
        checks.due("the last of the queue", desk.queued(0, waiting), number);
        checks.due("lost()", desk.lost(), 0);
        checks.due("put, no token is left", desk.put(0, 1), waiting + reserved == 2 ? FULL : SLOW);
    }

    private static void commitTakesNeitherPlaceNorToken() {
        checks.sentence("Terms", "(What a commit puts takes neither.)");
        StageDesk noToken = meeting(false, 0, 2, false);
        checks.due("commit without a token", noToken.commit(0, 1), 1);
        checks.told(noToken, 0, 2, 0, 1, 1, 0, 0, 0);
        StageDesk token = meeting(false, 0, 2, true);
        checks.due("commit with a token", token.commit(0, 1), 1);
        checks.told(token, 0, 2, 0, 1, 1, 0, 1, 0);
        StageDesk noPlace = meeting(false, 2, 1, true);
        checks.due("commit with no other place", noPlace.commit(0, 1), 3);
        checks.queue(noPlace, 0, 1, 2, 3);
        checks.told(noPlace, 0, 3, 0, 1, 1, 0, 1, 0);
    }
}
