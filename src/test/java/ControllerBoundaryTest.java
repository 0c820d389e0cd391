/** The boundary cases that the document names where it tells of the controllers. */
public final class ControllerBoundaryTest {
    private static final int NONE = Desks.NONE;

    private static final Checks checks = new Checks();

    public static void main(String[] args) {
        everyTenthTick();
        controllersOfEachStage();
        aQueueLongerThanHalf();
        reservedPlacesAreNoQueue();
        aNewWorkerStandsBehind();
        workersUpToTheCap();
        theOnlyWorkerStays();
        aWorkerWithABatchStays();
        idleForNineTicks();
        idleForTenTicks();
        idleSinceItIsThere();
        theLastOneGoesAtTheCap();
        oneWorkerGoesAtATime();
        aWorkerThatComesAgain();
        batchesGrow();
        batchesUpToEight();
        batchesFallToOne();
        batchesOfAnEndStay();
        ratesWithoutAGoal();
        ratesWithoutTimes();
        responseAtEachNumberOfTimes();
        responseOfUnsortedTimes();
        ratesFallAboveTheGoal();
        ratesGrowAtTheGoal();
        aNewRateCountsFromTheNextTick();
        ratesOfOtherStagesStay();
        checks.end();
    }

    private static void everyTenthTick() {
        checks.sentence("Terms", "Then, when the clock divided by 10 leaves nothing,");
        StageDesk desk = Desks.stuck(32, 1);
        Desks.fill(desk, 0, 20, 1);
        for (int clock = 2; clock <= 31; clock++) {
            desk.tick(1);
            checks.due("batch size at " + clock, desk.told(0, 3), 1 + clock / 10);
        }
        StageDesk leap = Desks.stuck(32, 1);
        Desks.fill(leap, 0, 20, 1);
        leap.tick(50);
        checks.due("batch size after 50 ticks by one call", leap.told(0, 3), 6);
    }

    private static void controllersOfEachStage() {
        checks.sentence("Terms", "each stage's controllers, from stage 0 on:");
        StageDesk desk = new StageDesk();
        for (int stage = 0; stage < 8; stage++) {
            desk.stage(Desks.COPY, 3, 2, 9);
        }
        desk.tick(9);
        for (int stage = 0; stage < 8; stage++) {
            Desks.fill(desk, stage, 3, 1);
        }
        desk.close(0);
        desk.close(7);
        desk.tick(1);
        for (int stage = 0; stage < 8; stage++) {
            checks.told(desk, stage, 2, 0, 2, 2);
        }
    }

    private static void aQueueLongerThanHalf() {
        checks.sentence("Terms", "if its queue is longer than half of its bound (rounded down)");
        int[][] boundWaitingWorkers = {
            {1, 0, 1}, {1, 1, 2}, {2, 0, 1}, {2, 1, 1}, {2, 2, 2}, {3, 1, 1}, {3, 2, 2}, {4, 2, 1}, {4, 3, 2},
            {31, 15, 1}, {31, 16, 2}, {32, 16, 1}, {32, 17, 2}, {32, 32, 2}
        };
        for (int[] b : boundWaitingWorkers) {
            StageDesk desk = Desks.stuck(b[0], 4);
            Desks.fill(desk, 0, b[1], 1);
            desk.tick(9);
            checks.due("workers with bound " + b[0] + " and " + b[1] + " waiting", desk.told(0, 2), b[2]);
        }
    }

    private static void reservedPlacesAreNoQueue() {
        checks.sentence("Terms", "if its queue is longer than half of its bound (rounded down)");
        StageDesk desk = Desks.stuck(4, 4);
        Desks.fill(desk, 0, 2, 1);
        desk.prepare(0, 2);
        desk.tick(9);
        checks.due("workers with two waiting and two places reserved", desk.told(0, 2), 1);
        StageDesk none = Desks.stuck(4, 4);
        none.prepare(0, 4);
        none.tick(9);
        checks.due("workers with four places reserved", none.told(0, 2), 1);
        checks.due("batch size with four places reserved", none.told(0, 3), 1);
    }

    private static void aNewWorkerStandsBehind() {
        checks.sentence("Terms", "1 WORKERS: one more (behind the others),");
        StageDesk desk = Desks.stuck(4, 3);
        Desks.fill(desk, 0, 4, 1);
        desk.tick(8);
        checks.due("worker(0, 1, 0) at 9", desk.worker(0, 1, 0), StageDesk.BAD);
        desk.tick(1);
        checks.worker(desk, 0, 0, 1, 0, 1);
        checks.worker(desk, 0, 1, 0, 0, 0);
        checks.due("worker(0, 2, 0)", desk.worker(0, 2, 0), StageDesk.BAD);
        desk.tick(1);
        checks.worker(desk, 0, 0, 1, 0, 1);
        checks.worker(desk, 0, 1, 2, 0, 0);
    }

    private static void workersUpToTheCap() {
        checks.sentence("Terms", "and it has less than its cap;");
        for (int cap = 1; cap <= 4; cap++) {
            StageDesk desk = Desks.stuck(32, cap);
            Desks.fill(desk, 0, 32, 1);
            desk.tick(9);
            for (int workers = 2; workers <= 6; workers++) {
                checks.holds("a queue longer than half", desk.told(0, 0) > 16);
                checks.due("workers with cap " + cap, desk.told(0, 2), Math.min(workers, cap));
                desk.tick(10);
            }
        }
    }

    private static void theOnlyWorkerStays() {
        checks.sentence("Terms", "else the last one goes, if there is more than one,");
        StageDesk desk = Desks.with(Desks.END, 4, 4, 0);
        desk.tick(50);
        checks.due("workers, the only one idle for 50 ticks", desk.told(0, 2), 1);
        desk.put(0, 1);
        desk.tick(2);
        checks.ended(desk, 0, 1);
    }

    private static void aWorkerWithABatchStays() {
        checks.sentence("Terms", "and it has no batch,");
        StageDesk desk = Desks.with(Desks.ROUTE, 1, 2, 0);
        desk.stage(Desks.END, 1, 1, 0);
        desk.stage(Desks.END, 1, 1, 0);
        desk.targets(0, 1, 2);
        desk.prepare(1, 1);
        desk.prepare(2, 1);
        desk.put(0, 2);
        desk.tick(1);
        desk.put(0, 3);
        desk.tick(11);
        desk.abort(1);
        desk.tick(38);
        checks.due("workers, the first one idle, the last one with a batch", desk.told(0, 2), 2);
        checks.worker(desk, 0, 0, 0, 0, 0);
        checks.worker(desk, 0, 1, 1, 0, 1);
        desk.abort(2);
        desk.tick(10);
        checks.due("workers, the last one idle for ten ticks", desk.told(0, 2), 1);
    }

    /** Clock 12: an END with two workers, that are idle since this tick. */
    private static StageDesk deskWithTwoWorkers() {
        StageDesk desk = Desks.with(Desks.END, 3, 2, 0);
        desk.tick(9);
        Desks.fill(desk, 0, 3, 1);
        desk.tick(2);
        checks.due("workers", desk.told(0, 2), 2);
        checks.worker(desk, 0, 0, 1, 0, 0);
        checks.worker(desk, 0, 1, 1, 0, 0);
        desk.tick(1);
        checks.due("ended()", desk.ended(), 3);
        return desk;
    }

    private static void idleForNineTicks() {
        checks.sentence("Terms", "and was idle in each of the ten ticks before (or since it is there).");
        StageDesk desk = deskWithTwoWorkers();
        desk.tick(8);
        checks.due("workers at 20, idle since 12", desk.told(0, 2), 2);
        Desks.fill(desk, 0, 2, 1);
        desk.tick(1);
        checks.worker(desk, 0, 1, 1, 0, 0);
        desk.tick(9);
        checks.due("workers at 30, idle since 22", desk.told(0, 2), 2);
        desk.tick(9);
        checks.due("workers at 39", desk.told(0, 2), 2);
        desk.tick(1);
        checks.due("workers at 40", desk.told(0, 2), 1);
        checks.due("worker(0, 1, 0)", desk.worker(0, 1, 0), StageDesk.BAD);
    }

    private static void idleForTenTicks() {
        checks.sentence("Terms", "(With none it was IDLE in this tick.)");
        StageDesk desk = deskWithTwoWorkers();
        desk.tick(7);
        Desks.fill(desk, 0, 2, 1);
        desk.tick(1);
        checks.worker(desk, 0, 1, 1, 0, 0);
        checks.due("workers at 20, with a batch", desk.told(0, 2), 2);
        desk.tick(1);
        checks.worker(desk, 0, 1, 0, 0, 0);
        desk.tick(9);
        checks.due("workers at 30, idle since it was free in tick 21", desk.told(0, 2), 1);
    }

    /** Clock 17: an END with two workers, of which the last one had no batch since it is there, from tick 10 on. */
    private static StageDesk deskWithANewWorker() {
        StageDesk desk = Desks.with(Desks.END, 1, 2, 9);
        desk.tick(1);
        desk.put(0, 1);
        desk.tick(1);
        desk.put(0, 2);
        desk.tick(8);
        checks.due("workers at 10", desk.told(0, 2), 2);
        desk.tick(7);
        checks.worker(desk, 0, 0, 1, 3, 0);
        checks.worker(desk, 0, 1, 0, 0, 0);
        return desk;
    }

    private static void idleSinceItIsThere() {
        checks.sentence("Terms", "and was idle in each of the ten ticks before (or since it is there).");
        StageDesk idle = deskWithANewWorker();
        idle.tick(2);
        checks.due("workers at 19", idle.told(0, 2), 2);
        idle.tick(1);
        checks.due("workers at 20", idle.told(0, 2), 1);
        checks.due("ended(): the other one's work is done", idle.ended(), 2);
        StageDesk busy = deskWithANewWorker();
        busy.put(0, 3);
        busy.tick(3);
        checks.worker(busy, 0, 1, 1, 7, 0);
        checks.due("workers at 20, the last one with a batch since 18", busy.told(0, 2), 2);
    }

    private static void theLastOneGoesAtTheCap() {
        checks.sentence("Terms", "else the last one goes, if there is more than one,");
        StageDesk desk = Desks.with(Desks.END, 1, 2, 9);
        desk.stage(Desks.COPY, 1, 1, 0);
        desk.targets(1, 0, NONE);
        desk.tick(1);
        desk.put(0, 1);
        desk.tick(1);
        desk.put(0, 2);
        desk.tick(16);
        desk.put(1, 3);
        desk.tick(2);
        checks.due("the queue is longer than half", desk.told(0, 0), 1);
        checks.due("workers at 20, when there were as many as the cap", desk.told(0, 2), 1);
    }

    private static void oneWorkerGoesAtATime() {
        checks.sentence("Terms", "else the last one goes, if there is more than one,");
        StageDesk desk = Desks.with(Desks.END, 32, 4, 9);
        Desks.fill(desk, 0, 32, 1);
        desk.tick(40);
        desk.tick(50);
        checks.due("the queue's length", desk.told(0, 0), 0);
        checks.worker(desk, 0, 2, 0, 0, 0);
        checks.worker(desk, 0, 3, 0, 0, 0);
        int[] workers = {4, 3, 2, 1, 1};
        for (int want : workers) {
            checks.due("workers at " + desk.clock(), desk.told(0, 2), want);
            desk.tick(10);
        }
        checks.due("ended()", desk.ended(), 32);
    }

    private static void aWorkerThatComesAgain() {
        checks.sentence("Terms", "1 WORKERS: one more (behind the others),");
        StageDesk desk = deskWithTwoWorkers();
        desk.tick(18);
        checks.due("workers at 30", desk.told(0, 2), 1);
        desk.tick(9);
        Desks.fill(desk, 0, 3, 1);
        desk.tick(1);
        checks.due("workers at 40", desk.told(0, 2), 2);
        checks.worker(desk, 0, 1, 0, 0, 0);
        desk.tick(2);
        checks.due("ended()", desk.ended(), 6);
        desk.tick(8);
        checks.due("workers at 50, idle since 42: what was before it went does not count", desk.told(0, 2), 2);
        desk.tick(10);
        checks.due("workers at 60", desk.told(0, 2), 1);
    }

    private static void batchesGrow() {
        checks.sentence("Terms", "where its queue is longer than BATCH, one more, at most 8;");
        int[][] waitingAndSizes = {{1, 1, 1, 1}, {2, 2, 2, 2}, {3, 2, 3, 3}, {4, 2, 3, 4}};
        for (int[] w : waitingAndSizes) {
            StageDesk desk = Desks.stuck(32, 1);
            Desks.fill(desk, 0, w[0], 1);
            desk.tick(9);
            for (int i = 1; i < w.length; i++) {
                checks.due("batch size at " + desk.clock() + " with " + w[0] + " waiting", desk.told(0, 3), w[i]);
                desk.tick(10);
            }
        }
    }

    private static void batchesUpToEight() {
        checks.sentence("Terms", "where its queue is longer than BATCH, one more, at most 8;");
        StageDesk desk = Desks.stuck(32, 1);
        Desks.fill(desk, 0, 32, 1);
        desk.tick(9);
        for (int i = 2; i <= 11; i++) {
            checks.due("batch size at " + desk.clock(), desk.told(0, 3), Math.min(i, 8));
            desk.tick(10);
        }
        desk.abort(1);
        desk.tick(1);
        checks.worker(desk, 0, 0, 8, 0, 0);
    }

    private static void batchesFallToOne() {
        checks.sentence("Terms", "where it is empty, one less, at least 1.");
        StageDesk desk = Desks.of(Desks.COPY);
        Desks.fill(desk, 0, 32, 1);
        desk.tick(10);
        Desks.fill(desk, 0, 10, 1);
        desk.tick(10);
        int[] sizes = {3, 2, 1, 1};
        for (int want : sizes) {
            checks.due("batch size at " + desk.clock(), desk.told(0, 3), want);
            desk.tick(10);
        }
        StageDesk never = Desks.of(Desks.SUM);
        never.tick(10);
        checks.due("batch size of a stage that had no event", never.told(0, 3), 1);
        StageDesk reserved = Desks.of(Desks.COPY);
        Desks.growBatchToTwo(reserved, 0);
        reserved.prepare(0, 8);
        reserved.tick(8);
        checks.due("batch size at 20, with reserved places and no event", reserved.told(0, 3), 1);
    }

    private static void batchesOfAnEndStay() {
        checks.sentence("Terms", "2 BATCH, unless it is an END:");
        for (int sort = Desks.COPY; sort <= Desks.END; sort++) {
            StageDesk desk = Desks.with(sort, 32, 1, 9);
            Desks.fill(desk, 0, 32, 1);
            desk.tick(20);
            checks.due("batch size of sort " + sort, desk.told(0, 3), sort == Desks.END ? 1 : 3);
        }
    }

    /** Clock 9: an END that has one time, of 2. */
    private static StageDesk deskWithATime(int rate, int goal) {
        StageDesk desk = Desks.of(Desks.END);
        desk.admit(0, rate, 100, goal);
        desk.put(0, 1);
        desk.tick(9);
        checks.due("response", desk.told(0, 9), 2);
        checks.due("rate at 9", desk.told(0, 4), rate);
        return desk;
    }

    private static void ratesWithoutAGoal() {
        checks.sentence("Terms", "3 RATE, only with a goal above 0,");
        int[][] goalAndRate = {{0, 40}, {1, 30}, {2, 41}, {1000, 41}};
        for (int[] g : goalAndRate) {
            StageDesk desk = deskWithATime(40, g[0]);
            desk.tick(1);
            checks.due("rate at 10 with goal " + g[0], desk.told(0, 4), g[1]);
        }
    }

    private static void ratesWithoutTimes() {
        checks.sentence("Terms", "and when it has TIMES:");
        StageDesk desk = Desks.with(Desks.END, 32, 1, 9);
        desk.stage(Desks.COPY, 32, 1, 0);
        desk.admit(0, 40, 100, 1000);
        desk.admit(1, 40, 100, 1000);
        desk.put(1, 1);
        desk.tick(1);
        desk.put(0, 1);
        desk.tick(9);
        checks.due("rate at 10, its only event is done at 11", desk.told(0, 4), 40);
        checks.due("rate of a COPY that handled one", desk.told(1, 4), 40);
        desk.tick(10);
        checks.due("rate at 20, with a time", desk.told(0, 4), 41);
        checks.due("rate of the COPY", desk.told(1, 4), 40);
    }

    private static void responseAtEachNumberOfTimes() {
        checks.sentence("Terms", "the one at place (9 n) / 10 (from 0, rounded down; n of them) is its RESPONSE;");
        int[] places = {0, 1, 2, 3, 4, 5, 6, 7, 8, 9, 9, 10, 11, 12, 13, 14, 15, 16, 17, 18};
        StageDesk desk = Desks.of(Desks.END);
        Desks.fill(desk, 0, 32, 1);
        desk.tick(1);
        for (int n = 1; n <= 20; n++) {
            desk.tick(1);
            checks.due("n", desk.ended(), n);
            // The times are 2, 3, 4 and so on.
            checks.due("response of " + n, desk.told(0, 9), 2 + places[n - 1]);
        }
    }

    private static void responseOfUnsortedTimes() {
        checks.sentence("Terms", "sorted,");
        StageDesk desk = Desks.of(Desks.END);
        Desks.fill(desk, 0, 11, 1);
        desk.tick(12);
        for (int i = 0; i < 2; i++) {
            desk.put(0, 1);
            desk.tick(2);
        }
        checks.due("n", desk.ended(), 13);
        checks.due("response: place 11 of 2, 2, 2, 3 .. 12", desk.told(0, 9), 11);
    }

    private static void ratesFallAboveTheGoal() {
        checks.sentence("Terms",
                "if that is above the goal, the rate becomes three quarters of it (rounded down, at least 1),");
        int[][] rates = {{100, 75}, {99, 74}, {75, 56}, {5, 3}, {4, 3}, {3, 2}, {2, 1}, {1, 1}, {0, 1}};
        for (int[] r : rates) {
            StageDesk desk = deskWithATime(r[0], 1);
            desk.tick(1);
            checks.due("rate at 10 from " + r[0], desk.told(0, 4), r[1]);
        }
        StageDesk again = deskWithATime(100, 1);
        again.tick(11);
        checks.due("rate at 20", again.told(0, 4), 56);
    }

    private static void ratesGrowAtTheGoal() {
        checks.sentence("Terms", "else one more, at most 100.");
        int[][] rates = {{0, 1}, {1, 2}, {98, 99}, {99, 100}, {100, 100}};
        for (int[] r : rates) {
            StageDesk desk = deskWithATime(r[0], 2);
            desk.tick(1);
            checks.due("rate at 10 from " + r[0], desk.told(0, 4), r[1]);
        }
        StageDesk again = deskWithATime(98, 2);
        again.tick(31);
        checks.due("rate at 40", again.told(0, 4), 100);
    }

    private static void aNewRateCountsFromTheNextTick() {
        checks.sentence("Terms", "Then, when the clock divided by 10 leaves nothing,");
        StageDesk desk = Desks.of(Desks.END);
        desk.admit(0, 8, 100, 1);
        Desks.fill(desk, 0, 1, 1);
        desk.tick(9);
        for (int i = 0; i < 32; i++) {
            desk.put(0, 1);
        }
        checks.due("tokens at 9", desk.told(0, 5), 68);
        desk.tick(1);
        checks.due("rate at 10", desk.told(0, 4), 6);
        checks.due("tokens at 10", desk.told(0, 5), 76);
        desk.tick(1);
        checks.due("tokens at 11", desk.told(0, 5), 82);
    }

    private static void ratesOfOtherStagesStay() {
        checks.sentence("Terms", "(That is the rate of the END itself.)");
        StageDesk desk = Desks.of(Desks.COPY, Desks.END, Desks.END);
        desk.targets(0, 1, NONE);
        desk.admit(0, 40, 100, 1);
        desk.admit(1, 40, 100, 1);
        desk.admit(2, 40, 100, 0);
        desk.put(0, 1);
        desk.put(2, 1);
        desk.tick(10);
        checks.due("rate of the stage before the END", desk.told(0, 4), 40);
        checks.due("rate of the END", desk.told(1, 4), 30);
        checks.due("rate of another END", desk.told(2, 4), 40);
    }
}
