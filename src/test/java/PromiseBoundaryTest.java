/** The boundary cases that promises 1 to 12 name: what makes, moves and refuses. */
public final class PromiseBoundaryTest {
    private static final int BAD = StageDesk.BAD;
    private static final int FULL = StageDesk.FULL;
    private static final int SHUT = StageDesk.SHUT;
    private static final int SLOW = StageDesk.SLOW;
    private static final int NONE = Desks.NONE;
    private static final int MIN = Integer.MIN_VALUE;
    private static final int MAX = Integer.MAX_VALUE;

    private static final Checks checks = new Checks();

    public static void main(String[] args) {
        promise1EverythingIsEmpty();
        promise2Numbers();
        promise2Sort();
        promise2Bound();
        promise2Cap();
        promise2Cost();
        promise2BadMakesNone();
        promise2Full();
        promise2WhatItHasAtFirst();
        promise3Set();
        promise3NoStage();
        promise3NoTarget();
        promise3BadChangesNothing();
        promise4Rate();
        promise4Depth();
        promise4DepthAndTokens();
        promise4Goal();
        promise4Bad();
        promise5Made();
        promise5Bad();
        promise5Refused();
        promise6Places();
        promise6Bad();
        promise6Shut();
        promise6Full();
        promise7AllAreMade();
        promise7NoneReservedAnyMore();
        promise7Bad();
        promise7Shut();
        promise8HowMany();
        promise8Bad();
        promise9Ticks();
        promise9ToTheLastTick();
        promise9Numbers();
        promise9Bad();
        promise9Full();
        promise10Waits();
        promise10DoesNotWait();
        promise11Close();
        promise12Ticks();
        promise12Bad();
        promise12Full();
        checks.end();
    }

    /** Of two stages: numbers that are none. */
    private static int[] noStages() {
        return new int[] {-1, -2, 2, 3, 8, MIN, MAX};
    }

    /** Clock 11, with something everywhere: a queue, reserved places, a batch, one that is kept, some that are done. */
    private static StageDesk busyDesk() {
        StageDesk desk = Desks.with(Desks.COPY, 6, 2, 0);
        desk.stage(Desks.END, 3, 1, 9);
        desk.targets(0, 1, NONE);
        desk.admit(0, 1, 9, 0);
        for (int i = 0; i < 6; i++) {
            desk.put(0, i);
        }
        desk.timer(0, 7, 20);
        desk.tick(11);
        desk.put(0, 8);
        desk.put(0, 9);
        desk.prepare(0, 2);
        return desk;
    }

    private static void promise1EverythingIsEmpty() {
        checks.sentence("Promise 1", "No stages; the clock is at 0.");
        StageDesk desk = new StageDesk();
        checks.due("clock()", desk.clock(), 0);
        checks.due("events()", desk.events(), 0);
        checks.due("ended()", desk.ended(), 0);
        checks.due("lost()", desk.lost(), 0);
        checks.due("targets(0, -1, -1)", desk.targets(0, NONE, NONE), BAD);
        checks.due("admit(0, 1, 1, 0)", desk.admit(0, 1, 1, 0), BAD);
        checks.due("put(0, 1)", desk.put(0, 1), BAD);
        checks.due("prepare(0, 1)", desk.prepare(0, 1), BAD);
        checks.due("commit(0, 1)", desk.commit(0, 1), BAD);
        checks.due("abort(0)", desk.abort(0), BAD);
        checks.due("timer(0, 1, 1)", desk.timer(0, 1, 1), BAD);
        checks.due("cancel(0)", desk.cancel(0), BAD);
        checks.due("close(0)", desk.close(0), BAD);
        checks.due("told(0, 0)", desk.told(0, 0), BAD);
        checks.due("queued(0, 0)", desk.queued(0, 0), BAD);
        checks.due("worker(0, 0, 0)", desk.worker(0, 0, 0), BAD);
        checks.due("done(0)", desk.done(0), BAD);
        checks.due("value(0)", desk.value(0), BAD);
        checks.due("tick(50), without a stage", desk.tick(50), 50);
        checks.due("the first stage", desk.stage(0, 1, 1, 0), 0);
        StageDesk other = new StageDesk();
        checks.due("put(0, 1) of another object", other.put(0, 1), BAD);
        checks.due("clock() of another object", other.clock(), 0);
    }

    private static void promise2Numbers() {
        checks.sentence("Promise 2", "A stage more: its number.");
        StageDesk desk = new StageDesk();
        checks.due("the first", desk.stage(4, 1, 1, 0), 0);
        desk.tick(3);
        checks.due("the second, later", desk.stage(4, 32, 4, 9), 1);
        checks.due("told(1, 0)", desk.told(1, 0), 0);
        checks.due("told(2, 0)", desk.told(2, 0), BAD);
    }

    private static void promise2Sort() {
        checks.sentence("Promise 2", "BAD when sort is not 0 .. 4,");
        StageDesk desk = new StageDesk();
        for (int sort : new int[] {-1, 5, MIN, MAX}) {
            checks.due("sort " + sort, desk.stage(sort, 1, 1, 0), BAD);
        }
        for (int sort = 0; sort <= 4; sort++) {
            checks.due("sort " + sort, desk.stage(sort, 1, 1, 0), sort);
        }
    }

    private static void promise2Bound() {
        checks.sentence("Promise 2", "bound not 1 .. 32,");
        StageDesk desk = new StageDesk();
        for (int bound : new int[] {0, -1, 33, MIN, MAX}) {
            checks.due("bound " + bound, desk.stage(0, bound, 1, 0), BAD);
        }
        checks.due("bound 1", desk.stage(0, 1, 1, 0), 0);
        checks.due("bound 32", desk.stage(0, 32, 1, 0), 1);
    }

    private static void promise2Cap() {
        checks.sentence("Promise 2", "cap not 1 .. 4,");
        StageDesk desk = new StageDesk();
        for (int cap : new int[] {0, -1, 5, MIN, MAX}) {
            checks.due("cap " + cap, desk.stage(0, 1, cap, 0), BAD);
        }
        checks.due("cap 1", desk.stage(0, 1, 1, 0), 0);
        checks.due("cap 4", desk.stage(0, 1, 4, 0), 1);
    }

    private static void promise2Cost() {
        checks.sentence("Promise 2", "cost not 0 .. 9;");
        StageDesk desk = new StageDesk();
        for (int cost : new int[] {-1, 10, MIN, MAX}) {
            checks.due("cost " + cost, desk.stage(0, 1, 1, cost), BAD);
        }
        checks.due("cost 0", desk.stage(0, 1, 1, 0), 0);
        checks.due("cost 9", desk.stage(0, 1, 1, 9), 1);
    }

    private static void promise2BadMakesNone() {
        checks.sentence("Promise 2", "BAD when sort is not 0 .. 4,");
        StageDesk desk = new StageDesk();
        desk.stage(5, 1, 1, 0);
        desk.stage(0, 33, 1, 0);
        desk.stage(0, 1, 5, 0);
        desk.stage(0, 1, 1, 10);
        checks.due("put(0, 1)", desk.put(0, 1), BAD);
        checks.due("the first that is not refused", desk.stage(0, 1, 1, 0), 0);
    }

    private static void promise2Full() {
        checks.sentence("Promise 2", "FULL.");
        StageDesk desk = new StageDesk();
        for (int i = 0; i < 8; i++) {
            checks.due("stage", desk.stage(4, 2, 1, 0), i);
        }
        for (int i = 0; i < 3; i++) {
            checks.due("a ninth", desk.stage(4, 2, 1, 0), FULL);
        }
        checks.due("a ninth that is wrong", desk.stage(4, 0, 1, 0), BAD);
        checks.due("told(8, 0)", desk.told(8, 0), BAD);
        checks.due("the eighth stands", desk.put(7, 1), 0);
    }

    private static void promise2WhatItHasAtFirst() {
        checks.sentence("Promise 2", "(It has no targets, depth and rate 100, batch 1, goal 0.)");
        StageDesk desk = Desks.with(Desks.SPLIT, 32, 4, 0);
        desk.stage(Desks.END, 32, 4, 9);
        for (int stage = 0; stage < 2; stage++) {
            checks.told(desk, stage, 0, 0, 1, 1, 100, 100, 0, 0, 0, 0);
        }
        desk.put(0, 1);
        desk.put(1, 1);
        desk.put(1, 2);
        checks.due("tokens", desk.told(1, 5), 98);
        desk.tick(1);
        checks.due("tokens, to the depth", desk.told(1, 5), 100);
        checks.worker(desk, 1, 0, 1, 9, 0);
        desk.tick(39);
        checks.due("events(): no targets", desk.events(), 3);
        checks.due("response", desk.told(1, 9), 19);
        checks.due("rate, without a goal", desk.told(1, 4), 100);
        desk.stage(Desks.COPY, 1, 1, 0);
        checks.told(desk, 2, 0, 0, 1, 1, 100, 100, 0, 0, 0, 0);
    }

    private static void promise3Set() {
        checks.sentence("Promise 3", "Its targets: 1.");
        StageDesk desk = Desks.of(Desks.SPLIT, Desks.COPY, Desks.COPY);
        int[][] pairs = {{1, 2}, {2, 1}, {1, 1}, {0, 0}, {1, NONE}, {NONE, 1}, {NONE, NONE}, {1, 2}};
        for (int[] pair : pairs) {
            checks.due("targets(0, " + pair[0] + ", " + pair[1] + ")", desk.targets(0, pair[0], pair[1]), 1);
        }
        desk.put(0, 1);
        desk.tick(3);
        checks.due("batches of the first target", desk.told(1, 7), 1);
        checks.due("batches of the second target", desk.told(2, 7), 1);
        desk.close(1);
        checks.due("targets that are closed", desk.targets(0, 1, 1), 1);
        desk.close(0);
        checks.due("targets of a closed stage", desk.targets(0, 2, NONE), 1);
    }

    private static void promise3NoStage() {
        checks.sentence("Promise 3", "BAD when it is no stage,");
        StageDesk desk = Desks.of(Desks.COPY, Desks.END);
        for (int stage : noStages()) {
            checks.due("targets(" + stage + ", 0, 1)", desk.targets(stage, 0, 1), BAD);
            checks.due("targets(" + stage + ", -1, -1)", desk.targets(stage, NONE, NONE), BAD);
        }
    }

    private static void promise3NoTarget() {
        checks.sentence("Promise 3", "or one of them is none and not -1.");
        StageDesk desk = Desks.of(Desks.COPY, Desks.END);
        for (int target : new int[] {-2, 2, 3, 8, MIN, MAX}) {
            checks.due("targets(0, " + target + ", 1)", desk.targets(0, target, 1), BAD);
            checks.due("targets(0, " + target + ", -1)", desk.targets(0, target, NONE), BAD);
            checks.due("targets(0, 1, " + target + ")", desk.targets(0, 1, target), BAD);
            checks.due("targets(0, -1, " + target + ")", desk.targets(0, NONE, target), BAD);
        }
        desk.stage(Desks.END, 1, 1, 0);
        checks.due("a target that is a stage by now", desk.targets(0, 2, 2), 1);
    }

    private static void promise3BadChangesNothing() {
        checks.sentence("Promise 3", "or one of them is none and not -1.");
        StageDesk desk = Desks.of(Desks.END, Desks.END, Desks.SPLIT);
        desk.targets(2, 0, 1);
        desk.targets(2, 1, 3);
        desk.targets(2, 3, 0);
        desk.targets(2, NONE, -2);
        desk.put(2, 1);
        desk.tick(2);
        checks.queue(desk, 0, 1);
        checks.queue(desk, 1, 2);
    }

    private static void promise4Rate() {
        checks.sentence("Promise 4", "Its rate (0 .. 100),");
        StageDesk desk = Desks.of(Desks.COPY);
        for (int rate : new int[] {-1, 101, MIN, MAX}) {
            checks.due("rate " + rate, desk.admit(0, rate, 50, 5), BAD);
            checks.due("its rate", desk.told(0, 4), 100);
        }
        for (int rate : new int[] {0, 1, 100}) {
            checks.due("rate " + rate, desk.admit(0, rate, 50, 5), 1);
            checks.due("its rate", desk.told(0, 4), rate);
        }
    }

    private static void promise4Depth() {
        checks.sentence("Promise 4", "depth (1 .. 100; tokens above it are lost),");
        StageDesk desk = Desks.of(Desks.COPY);
        for (int depth : new int[] {0, -1, 101, MIN, MAX}) {
            checks.due("depth " + depth, desk.admit(0, 5, depth, 5), BAD);
            checks.due("its tokens", desk.told(0, 5), 100);
        }
        for (int depth : new int[] {100, 2, 1}) {
            checks.due("depth " + depth, desk.admit(0, 5, depth, 5), 1);
            checks.due("its tokens", desk.told(0, 5), depth);
        }
    }

    private static void promise4DepthAndTokens() {
        checks.sentence("Promise 4", "depth (1 .. 100; tokens above it are lost),");
        StageDesk desk = Desks.of(Desks.COPY);
        for (int i = 0; i < 10; i++) {
            desk.put(0, i);
        }
        int[][] depthAndTokens = {{91, 90}, {90, 90}, {89, 89}, {100, 89}, {5, 5}, {6, 5}};
        for (int[] d : depthAndTokens) {
            desk.admit(0, 0, d[0], 0);
            checks.due("tokens with depth " + d[0], desk.told(0, 5), d[1]);
        }
        checks.due("lost(): tokens are no events", desk.lost(), 0);
        desk.admit(0, 100, 6, 0);
        desk.tick(1);
        checks.due("tokens after a tick", desk.told(0, 5), 6);
    }

    private static void promise4Goal() {
        checks.sentence("Promise 4", "and goal (0 .. 1000): 1.");
        int[][] goalAnswerRate = {
            {-1, BAD, 20}, {1001, BAD, 20}, {MIN, BAD, 20}, {MAX, BAD, 20}, {0, 1, 20}, {1, 1, 15}, {1000, 1, 21}
        };
        for (int[] g : goalAnswerRate) {
            StageDesk desk = Desks.of(Desks.END);
            desk.admit(0, 20, 50, 0);
            checks.due("goal " + g[0], desk.admit(0, 20, 50, g[0]), g[1]);
            desk.put(0, 1);
            desk.tick(10);
            checks.due("rate at 10 with goal " + g[0], desk.told(0, 4), g[2]);
        }
    }

    private static void promise4Bad() {
        checks.sentence("Promise 4", "BAD.");
        StageDesk desk = Desks.of(Desks.END, Desks.END);
        desk.admit(0, 20, 50, 0);
        for (int stage : noStages()) {
            checks.due("admit(" + stage + ", 1, 1, 1)", desk.admit(stage, 1, 1, 1), BAD);
        }
        int[][] wrong = {{101, 1, 1}, {-1, 1, 1}, {1, 0, 1}, {1, 101, 1}, {1, 1, -1}, {1, 1, 1001}};
        for (int[] w : wrong) {
            checks.due("a wrong admit", desk.admit(0, w[0], w[1], w[2]), BAD);
            checks.due("rate", desk.told(0, 4), 20);
            checks.due("tokens", desk.told(0, 5), 50);
        }
        desk.put(0, 1);
        desk.tick(10);
        checks.due("rate at 10, still without a goal", desk.told(0, 4), 20);
        checks.due("tokens at 10, still with depth 50", desk.told(0, 5), 50);
        checks.due("the other stage's rate", desk.told(1, 4), 100);
        checks.due("the other stage's tokens", desk.told(1, 5), 100);
    }

    private static void promise5Made() {
        checks.sentence("Promise 5", "An event with a value, born now, is made and offered: its number.");
        int[] values = {0, -1, MIN, MAX};
        StageDesk desk = Desks.of(Desks.END);
        for (int i = 0; i < values.length; i++) {
            checks.due("put", desk.put(0, values[i]), i);
        }
        desk.tick(5);
        checks.ended(desk, 0, 0, 1, -1, 2, MIN, 3, MAX);
        checks.due("born at 0, the last one done at 5", desk.told(0, 9), 5);
        StageDesk later = Desks.of(Desks.END);
        later.tick(7);
        later.put(0, 1);
        later.tick(2);
        checks.due("born at 7, done at 9", later.told(0, 9), 2);
    }

    private static void promise5Bad() {
        checks.sentence("Promise 5", "BAD;");
        StageDesk desk = busyDesk();
        String before = Desks.state(desk, 2);
        for (int stage : noStages()) {
            checks.due("put(" + stage + ", 1)", desk.put(stage, 1), BAD);
        }
        checks.same("nothing is changed by it", Desks.state(desk, 2), before);
    }

    private static void promise5Refused() {
        checks.sentence("Promise 5", "refused: SHUT, FULL (no place), SLOW (no token): no event is made then.");
        StageDesk desk = Desks.with(Desks.COPY, 2, 1, 0);
        desk.admit(0, 0, 1, 0);
        checks.due("put, with the last token", desk.put(0, 1), 0);
        checks.due("put, no token", desk.put(0, 1), SLOW);
        checks.due("events()", desk.events(), 1);
        desk.prepare(0, 1);
        checks.due("put, no place either", desk.put(0, 1), FULL);
        checks.due("events()", desk.events(), 1);
        desk.close(0);
        checks.due("put, closed too", desk.put(0, 1), SHUT);
        checks.due("events()", desk.events(), 1);
        checks.told(desk, 0, 1, 1, 1, 1, 0, 0, 3);
        checks.due("lost(): none, for none was made", desk.lost(), 0);
    }

    private static void promise6Places() {
        checks.sentence("Promise 6", "So many (1 .. 8) places are reserved: 1.");
        for (int places : new int[] {0, -1, 9, MIN, MAX}) {
            StageDesk desk = Desks.with(Desks.COPY, 32, 1, 0);
            checks.due("prepare(0, " + places + ")", desk.prepare(0, places), BAD);
            checks.due("reserved", desk.told(0, 1), 0);
        }
        StageDesk desk = Desks.with(Desks.COPY, 32, 1, 0);
        desk.admit(0, 0, 1, 0);
        desk.put(0, 1);
        checks.due("prepare(0, 1), without a token", desk.prepare(0, 1), 1);
        checks.due("reserved", desk.told(0, 1), 1);
        checks.due("prepare(0, 8)", desk.prepare(0, 8), 1);
        checks.due("reserved, in all", desk.told(0, 1), 9);
        checks.due("events(): none is made yet", desk.events(), 1);
    }

    private static void promise6Bad() {
        checks.sentence("Promise 6", "BAD;");
        StageDesk desk = busyDesk();
        String before = Desks.state(desk, 2);
        for (int stage : noStages()) {
            checks.due("prepare(" + stage + ", 1)", desk.prepare(stage, 1), BAD);
        }
        checks.due("prepare(0, 0)", desk.prepare(0, 0), BAD);
        checks.due("prepare(0, 9)", desk.prepare(0, 9), BAD);
        checks.same("nothing is changed by it", Desks.state(desk, 2), before);
    }

    private static void promise6Shut() {
        checks.sentence("Promise 6", "SHUT;");
        StageDesk desk = Desks.with(Desks.COPY, 4, 1, 0);
        desk.prepare(0, 2);
        desk.close(0);
        checks.due("prepare, with places", desk.prepare(0, 2), SHUT);
        checks.due("prepare, without so many places", desk.prepare(0, 3), SHUT);
        checks.due("prepare, wrong", desk.prepare(0, 9), BAD);
        checks.told(desk, 0, 0, 2, 1, 1, 100, 100, 0);
    }

    private static void promise6Full() {
        checks.sentence("Promise 6", "FULL when there are not so many (nothing is reserved).");
        int[][] boundWaitingReserved = {
            {7, 0, 0}, {8, 1, 0}, {8, 0, 1}, {10, 2, 1}, {1, 1, 0}, {32, 32, 0}, {32, 17, 8}
        };
        for (int[] b : boundWaitingReserved) {
            StageDesk desk = Desks.with(Desks.COPY, b[0], 1, 0);
            Desks.fill(desk, 0, b[1], 0);
            if (b[2] > 0) {
                desk.prepare(0, b[2]);
            }
            int free = b[0] - b[1] - b[2];
            checks.due("one too many", desk.prepare(0, free + 1), FULL);
            checks.due("the most", desk.prepare(0, 8), FULL);
            checks.due("reserved", desk.told(0, 1), b[2]);
            if (free > 0) {
                checks.due("as many as there are", desk.prepare(0, free), 1);
            }
            checks.due("one more", desk.prepare(0, 1), FULL);
            checks.due("reserved", desk.told(0, 1), b[2] + free);
            checks.due("refused: no offer", desk.told(0, 6), 0);
        }
    }

    private static void promise7AllAreMade() {
        checks.sentence("Promise 7",
                "As many events as are reserved there, all with a value, are made and put in the reserved places,");
        for (int places : new int[] {1, 8, 31}) {
            StageDesk desk = Desks.with(Desks.END, 32, 1, 0);
            desk.put(0, 5);
            for (int left = places; left > 0; left -= 8) {
                desk.prepare(0, Math.min(left, 8));
            }
            checks.due("commit of " + places, desk.commit(0, MIN), 1);
            checks.due("the queue's length", desk.told(0, 0), 1 + places);
            checks.due("the last one", desk.queued(0, places), places);
            checks.due("events()", desk.events(), 1 + places);
            desk.tick(33);
            checks.due("ended()", desk.ended(), 1 + places);
            checks.due("the value of the first", desk.value(1), MIN);
            checks.due("the value of the last", desk.value(places), MIN);
        }
        bornWhenCommitted();
    }

    private static void bornWhenCommitted() {
        StageDesk desk = Desks.of(Desks.END);
        desk.prepare(0, 1);
        desk.tick(5);
        desk.commit(0, 1);
        desk.tick(2);
        checks.due("born at 5, done at 7", desk.told(0, 9), 2);
    }

    private static void promise7NoneReservedAnyMore() {
        checks.sentence("Promise 7", "the first one's number told: none is reserved any more.");
        StageDesk desk = Desks.of(Desks.COPY, Desks.COPY);
        desk.prepare(0, 2);
        desk.prepare(1, 3);
        checks.due("commit(0, 1)", desk.commit(0, 1), 0);
        checks.due("reserved", desk.told(0, 1), 0);
        checks.due("reserved of another stage", desk.told(1, 1), 3);
        checks.due("commit(1, 1)", desk.commit(1, 1), 2);
        checks.queue(desk, 0, 0, 1);
        checks.queue(desk, 1, 2, 3, 4);
        checks.due("abort(0)", desk.abort(0), 0);
    }

    private static void promise7Bad() {
        checks.sentence("Promise 7", "BAD, also when none is;");
        StageDesk desk = busyDesk();
        desk.abort(0);
        String before = Desks.state(desk, 2);
        for (int stage : noStages()) {
            checks.due("commit(" + stage + ", 1)", desk.commit(stage, 1), BAD);
        }
        checks.due("commit(0, 1), after an abort", desk.commit(0, 1), BAD);
        checks.due("commit(1, 1), never reserved", desk.commit(1, 1), BAD);
        checks.same("nothing is changed by it", Desks.state(desk, 2), before);
        desk.prepare(0, 1);
        checks.due("commit(0, 1)", desk.commit(0, 1), desk.events() - 1);
        checks.due("commit(0, 1) again", desk.commit(0, 1), BAD);
        desk.close(1);
        checks.due("commit(1, 1), closed and none reserved", desk.commit(1, 1), BAD);
    }

    private static void promise7Shut() {
        checks.sentence("Promise 7", "SHUT (they stay reserved).");
        StageDesk desk = Desks.with(Desks.COPY, 4, 1, 0);
        desk.prepare(0, 3);
        desk.close(0);
        for (int i = 0; i < 2; i++) {
            checks.due("commit", desk.commit(0, 1), SHUT);
            checks.told(desk, 0, 0, 3, 1, 1, 100, 100, 0);
            checks.due("events()", desk.events(), 0);
        }
        checks.due("abort", desk.abort(0), 3);
    }

    private static void promise8HowMany() {
        checks.sentence("Promise 8", "No places are reserved there any more: how many were.");
        StageDesk desk = Desks.with(Desks.COPY, 32, 1, 0);
        desk.stage(Desks.COPY, 32, 1, 0);
        checks.due("abort, none reserved", desk.abort(0), 0);
        desk.prepare(1, 1);
        for (int i = 0; i < 4; i++) {
            desk.prepare(0, 8);
        }
        checks.due("abort of all places", desk.abort(0), 32);
        checks.due("reserved", desk.told(0, 1), 0);
        checks.due("abort again", desk.abort(0), 0);
        checks.due("reserved of another stage", desk.told(1, 1), 1);
        Desks.fill(desk, 0, 32, 1);
        checks.due("the places are free again", desk.told(0, 0), 32);
        desk.close(1);
        checks.due("abort of a closed stage", desk.abort(1), 1);
        checks.due("abort of a closed stage again", desk.abort(1), 0);
    }

    private static void promise8Bad() {
        checks.sentence("Promise 8", "BAD.");
        StageDesk desk = busyDesk();
        String before = Desks.state(desk, 2);
        for (int stage : noStages()) {
            checks.due("abort(" + stage + ")", desk.abort(stage), BAD);
        }
        checks.same("nothing is changed by it", Desks.state(desk, 2), before);
    }

    private static void promise9Ticks() {
        checks.sentence("Promise 9",
                "An event with a value is to be offered to a stage at a later tick (1 .. 1000 from now on):");
        StageDesk desk = Desks.of(Desks.END);
        for (int ticks : new int[] {0, -1, 1001, MIN, MAX}) {
            checks.due("timer(0, 1, " + ticks + ")", desk.timer(0, 1, ticks), BAD);
        }
        desk.tick(3);
        checks.due("timer(0, -1, 1)", desk.timer(0, -1, 1), 0);
        checks.due("timer(0, MIN, 2)", desk.timer(0, MIN, 2), 1);
        checks.due("timer(0, 1, 1000)", desk.timer(0, 1, 1000), 2);
        checks.due("events()", desk.events(), 0);
        desk.tick(1);
        checks.due("events() a tick later", desk.events(), 1);
        desk.tick(1);
        checks.due("events() two ticks later", desk.events(), 2);
        desk.tick(1);
        checks.ended(desk, 0, -1, 1, MIN);
        checks.due("cancel(2): it waits still", desk.cancel(2), 1);
    }

    private static void promise9ToTheLastTick() {
        checks.sentence("Promise 9",
                "An event with a value is to be offered to a stage at a later tick (1 .. 1000 from now on):");
        StageDesk desk = Desks.of(Desks.COPY);
        desk.timer(0, 1, 399);
        desk.timer(0, 1, 400);
        desk.timer(0, 1, 401);
        for (int i = 0; i < 7; i++) {
            desk.tick(50);
        }
        desk.timer(0, 1, 50);
        desk.timer(0, 1, 51);
        desk.tick(49);
        checks.due("events() at 399", desk.events(), 1);
        desk.tick(1);
        checks.due("events() at 400", desk.events(), 3);
        checks.due("cancel(2): it waits for 401", desk.cancel(2), 1);
        checks.due("cancel(4): it waits for 401", desk.cancel(4), 1);
        checks.due("timer, at the last tick", desk.timer(0, 1, 1), 5);
    }

    private static void promise9Numbers() {
        checks.sentence("Promise 9", "the timer's number, from 0.");
        StageDesk desk = Desks.of(Desks.COPY, Desks.COPY);
        checks.due("the first", desk.timer(1, 1, 1), 0);
        checks.due("one that is refused", desk.timer(1, 1, 0), BAD);
        checks.due("the second", desk.timer(0, 1, 2), 1);
        desk.cancel(1);
        desk.tick(1);
        checks.due("the third, when none waits", desk.timer(0, 1, 3), 2);
    }

    private static void promise9Bad() {
        checks.sentence("Promise 9", "BAD;");
        StageDesk desk = busyDesk();
        String before = Desks.state(desk, 2);
        for (int stage : noStages()) {
            checks.due("timer(" + stage + ", 1, 1)", desk.timer(stage, 1, 1), BAD);
        }
        checks.same("nothing is changed by it", Desks.state(desk, 2), before);
        checks.due("the next number", desk.timer(0, 1, 1), 1);
        desk.close(1);
        checks.due("a timer for a closed stage", desk.timer(1, 1, 1), 2);
    }

    private static void promise9Full() {
        checks.sentence("Promise 9", "FULL when 50 wait.");
        StageDesk desk = Desks.of(Desks.COPY);
        for (int i = 0; i < 50; i++) {
            checks.due("timer", desk.timer(0, 1, i == 20 ? 1 : 1000), i);
        }
        checks.due("one too many", desk.timer(0, 1, 1), FULL);
        checks.due("one too many, and wrong", desk.timer(0, 1, 0), BAD);
        desk.tick(1);
        checks.due("events()", desk.events(), 1);
        checks.due("a timer when 49 wait", desk.timer(0, 1, 1000), 50);
        checks.due("one too many", desk.timer(0, 1, 1), FULL);
        checks.due("cancel(0)", desk.cancel(0), 1);
        checks.due("a timer when 49 wait", desk.timer(0, 1, 1000), 51);
        checks.due("one too many", desk.timer(0, 1, 1), FULL);
        desk.tick(1);
        checks.due("events(): what was refused is not made", desk.events(), 1);
    }

    private static void promise10Waits() {
        checks.sentence("Promise 10", "A timer that waits waits no more: 1;");
        StageDesk desk = Desks.of(Desks.END, Desks.END);
        int[] stages = {0, 1, 0, 1, 0};
        for (int i = 0; i < stages.length; i++) {
            desk.timer(stages[i], 60 + i, i == 2 ? 3 : 2);
        }
        checks.due("cancel of the first", desk.cancel(0), 1);
        checks.due("cancel of the last", desk.cancel(4), 1);
        desk.tick(2);
        checks.due("events()", desk.events(), 2);
        checks.due("lost()", desk.lost(), 0);
        checks.queue(desk, 0);
        checks.queue(desk, 1, 1);
        desk.tick(2);
        checks.ended(desk, 0, 61, 2, 62, 1, 63);
    }

    private static void promise10DoesNotWait() {
        checks.sentence("Promise 10", "BAD when it does not.");
        StageDesk desk = Desks.of(Desks.END);
        checks.due("cancel(0), none was set", desk.cancel(0), BAD);
        desk.timer(0, 1, 1);
        desk.timer(0, 2, 2);
        desk.timer(0, 3, 3);
        for (int timer : new int[] {-1, 3, 50, MIN, MAX}) {
            checks.due("cancel(" + timer + "), never set", desk.cancel(timer), BAD);
        }
        desk.cancel(1);
        checks.due("cancel(1), cancelled before", desk.cancel(1), BAD);
        desk.tick(1);
        checks.due("cancel(0), that was due", desk.cancel(0), BAD);
        desk.tick(2);
        checks.due("cancel(2), that was due just now", desk.cancel(2), BAD);
        checks.due("events()", desk.events(), 2);
    }

    private static void promise11Close() {
        checks.sentence("Promise 11", "A stage is closed: 1; BAD; SHUT when it was.");
        StageDesk desk = busyDesk();
        String before = Desks.state(desk, 2);
        for (int stage : noStages()) {
            checks.due("close(" + stage + ")", desk.close(stage), BAD);
        }
        checks.due("close(0)", desk.close(0), 1);
        checks.due("close(0) again", desk.close(0), SHUT);
        checks.due("close(0) once more", desk.close(0), SHUT);
        checks.same("queue, workers and reserved places are as they were", Desks.state(desk, 2), before);
        checks.due("close(1)", desk.close(1), 1);
    }

    private static void promise12Ticks() {
        checks.sentence("Promise 12", "So many (1 .. 50) TICKS: the clock then.");
        StageDesk desk = Desks.of(Desks.END);
        desk.timer(0, 1, 51);
        checks.due("tick(1)", desk.tick(1), 1);
        checks.due("tick(49)", desk.tick(49), 50);
        checks.due("events()", desk.events(), 0);
        checks.due("tick(50)", desk.tick(50), 100);
        checks.due("clock()", desk.clock(), 100);
        checks.ended(desk, 0, 1);
        checks.due("born at 51, done at 52", desk.told(0, 9), 1);
    }

    private static void promise12Bad() {
        checks.sentence("Promise 12", "BAD;");
        StageDesk desk = busyDesk();
        String before = Desks.state(desk, 2);
        for (int many : new int[] {0, -1, 51, MIN, MAX}) {
            checks.due("tick(" + many + ")", desk.tick(many), BAD);
        }
        checks.same("nothing is changed by it", Desks.state(desk, 2), before);
    }

    private static void promise12Full() {
        checks.sentence("Promise 12", "FULL when it would be above 400 (none is made).");
        StageDesk desk = busyDesk();
        for (int i = 0; i < 7; i++) {
            desk.tick(50);
        }
        checks.due("clock()", desk.clock(), 361);
        String before = Desks.state(desk, 2);
        checks.due("tick(50)", desk.tick(50), FULL);
        checks.due("tick(40)", desk.tick(40), FULL);
        checks.same("none is made", Desks.state(desk, 2), before);
        checks.due("tick(39)", desk.tick(39), 400);
        checks.due("tick(1)", desk.tick(1), FULL);
        checks.due("tick(0)", desk.tick(0), BAD);
        checks.due("tick(51)", desk.tick(51), BAD);
        checks.due("clock()", desk.clock(), 400);
        checks.holds("other calls are met still", desk.put(1, 1) >= 0);
    }
}
