/** The controllers, that act at each tenth tick, and the RESPONSE by which one of them goes. */
public final class ControllerTest {
    private static final int COPY = 0;
    private static final int END = 4;

    private static final Checks checks = new Checks();

    public static void main(String[] args) {
        aLongQueueBringsAWorker();
        halfABoundBringsNone();
        workersStayUnderTheCap();
        workersTakeInTheirOrder();
        tenIdleTicksSendAWorker();
        nineIdleTicksDoNot();
        theLastWorkerAloneGoes();
        batchesGrowWithTheQueue();
        batchesOfAnEndStay();
        ratesFallAboveTheGoal();
        ratesGrowUpToTheGoal();
        ratesStayWithoutGoalOrTimes();
        responseIsAtNineTenths();
        checks.end();
    }

    private static StageDesk desk(int sort, int bound, int cap, int cost) {
        StageDesk desk = new StageDesk();
        desk.stage(sort, bound, cap, cost);
        return desk;
    }

    private static void putMany(StageDesk desk, int stage, int many) {
        for (int i = 0; i < many; i++) {
            desk.put(stage, i);
        }
    }

    /** A COPY whose worker is stuck with one event for ever, while so many stay in its queue. */
    private static StageDesk stuckDesk(int bound, int cap, int waiting) {
        StageDesk desk = desk(COPY, bound, cap, 0);
        desk.stage(END, 1, 1, 0);
        desk.close(1);
        desk.targets(0, 1, -1);
        desk.put(0, 0);
        desk.tick(1);
        putMany(desk, 0, waiting);
        return desk;
    }

    private static void aLongQueueBringsAWorker() {
        checks.part("a long queue");
        StageDesk desk = desk(COPY, 4, 3, 9);
        putMany(desk, 0, 4);
        desk.tick(1);
        desk.put(0, 4);
        desk.tick(8);
        checks.due("workers at 9", desk.told(0, 2), 1);
        desk.tick(1);
        checks.due("workers at 10", desk.told(0, 2), 2);
        checks.due("batch size at 10", desk.told(0, 3), 2);
        checks.worker(desk, 0, 1, 0, 0, 0);
        checks.due("worker(0, 2, 0)", desk.worker(0, 2, 0), StageDesk.BAD);
        desk.tick(1);
        checks.worker(desk, 0, 0, 1, 8, 0);
        checks.worker(desk, 0, 1, 2, 18, 0);
        desk.tick(9);
        checks.told(desk, 0, 0, 0, 2, 1);
        checks.worker(desk, 0, 1, 2, 9, 0);
        desk.tick(19);
        checks.due("workers at 39", desk.told(0, 2), 2);
        desk.tick(1);
        checks.due("workers at 40", desk.told(0, 2), 1);
        desk.tick(50);
        checks.told(desk, 0, 0, 0, 1, 1);
    }

    private static void halfABoundBringsNone() {
        checks.part("half a bound");
        int[][] boundQueueWorkers = {
            {1, 0, 1}, {1, 1, 2}, {4, 2, 1}, {4, 3, 2}, {5, 2, 1}, {5, 3, 2}, {32, 16, 1}, {32, 17, 2}
        };
        for (int[] b : boundQueueWorkers) {
            StageDesk desk = stuckDesk(b[0], 4, b[1]);
            desk.tick(9);
            checks.due("workers with bound " + b[0] + " and " + b[1] + " waiting", desk.told(0, 2), b[2]);
        }
    }

    private static void workersStayUnderTheCap() {
        checks.part("the cap");
        StageDesk one = stuckDesk(32, 1, 32);
        one.tick(50);
        checks.due("workers", one.told(0, 2), 1);
        StageDesk four = stuckDesk(32, 4, 32);
        four.tick(9);
        int[] workers = {2, 3, 4, 4, 4};
        for (int want : workers) {
            checks.due("workers at " + four.clock(), four.told(0, 2), want);
            four.tick(10);
            putMany(four, 0, 32);
        }
    }

    private static void workersTakeInTheirOrder() {
        checks.part("two workers");
        StageDesk desk = desk(COPY, 2, 2, 0);
        desk.stage(END, 32, 1, 9);
        desk.targets(0, 1, -1);
        desk.close(1);
        desk.put(0, 70);
        desk.tick(1);
        desk.put(0, 71);
        desk.put(0, 72);
        desk.tick(9);
        checks.due("workers", desk.told(0, 2), 2);
        checks.worker(desk, 0, 0, 1, 0, 1);
        desk.tick(1);
        checks.worker(desk, 0, 1, 2, 0, 0);
        desk.tick(1);
        checks.worker(desk, 0, 1, 2, 0, 2);
        checks.due("events(): the first of each was made", desk.events(), 5);
        checks.due("refused: one of each", desk.told(1, 6), 12);
    }

    /** Clock 21: worker 0 has a batch till tick 30, worker 1 none since tick 20. */
    private static StageDesk deskWithTwoWorkers() {
        StageDesk desk = desk(COPY, 1, 2, 9);
        desk.tick(2);
        desk.put(0, 0);
        desk.tick(1);
        desk.put(0, 1);
        desk.tick(17);
        checks.due("workers", desk.told(0, 2), 2);
        checks.worker(desk, 0, 0, 0, 0, 0);
        checks.worker(desk, 0, 1, 0, 0, 0);
        desk.put(0, 2);
        desk.tick(1);
        checks.worker(desk, 0, 0, 1, 9, 0);
        return desk;
    }

    private static void tenIdleTicksSendAWorker() {
        checks.part("ten idle ticks");
        StageDesk desk = deskWithTwoWorkers();
        desk.put(0, 3);
        desk.tick(9);
        checks.worker(desk, 0, 1, 1, 1, 0);
        desk.tick(9);
        checks.due("workers at 39", desk.told(0, 2), 2);
        desk.tick(1);
        checks.due("workers at 40", desk.told(0, 2), 1);
        checks.due("worker(0, 1, 0)", desk.worker(0, 1, 0), StageDesk.BAD);
    }

    private static void nineIdleTicksDoNot() {
        checks.part("nine idle ticks");
        StageDesk desk = deskWithTwoWorkers();
        desk.tick(1);
        desk.put(0, 3);
        desk.tick(8);
        checks.worker(desk, 0, 1, 1, 2, 0);
        desk.tick(10);
        checks.due("workers at 40", desk.told(0, 2), 2);
        desk.tick(10);
        checks.due("workers at 50", desk.told(0, 2), 1);
    }

    private static void theLastWorkerAloneGoes() {
        checks.part("an idle worker before a busy one");
        StageDesk desk = stuckDesk(1, 2, 1);
        desk.tick(11);
        checks.worker(desk, 0, 0, 1, 0, 1);
        checks.worker(desk, 0, 1, 1, 0, 1);
        desk.tick(40);
        checks.due("workers that are stuck stay", desk.told(0, 2), 2);
    }

    private static void batchesGrowWithTheQueue() {
        checks.part("batches");
        StageDesk three = stuckDesk(32, 1, 3);
        three.tick(8);
        checks.due("batch size at 9", three.told(0, 3), 1);
        three.tick(1);
        int[] sizes = {2, 3, 3, 3};
        for (int want : sizes) {
            checks.due("batch size, 3 waiting", three.told(0, 3), want);
            three.tick(10);
        }
        StageDesk many = stuckDesk(32, 1, 20);
        many.tick(9);
        for (int i = 1; i < 12; i++) {
            checks.due("batch size, 20 waiting", many.told(0, 3), Math.min(1 + i, 8));
            many.tick(10);
        }
    }

    private static void batchesOfAnEndStay() {
        checks.part("the batches of an END");
        StageDesk desk = desk(END, 32, 1, 9);
        putMany(desk, 0, 32);
        desk.tick(40);
        checks.due("batch size", desk.told(0, 3), 1);
        checks.worker(desk, 0, 0, 1, 6, 0);
    }

    private static void ratesFallAboveTheGoal() {
        checks.part("rates that fall");
        StageDesk desk = desk(END, 32, 1, 0);
        desk.admit(0, 100, 100, 1);
        desk.put(0, 1);
        desk.tick(9);
        checks.due("response", desk.told(0, 9), 2);
        checks.due("rate at 9", desk.told(0, 4), 100);
        desk.tick(1);
        int[] rates = {75, 56, 42, 31, 23, 17, 12, 9, 6, 4, 3, 2, 1, 1};
        for (int want : rates) {
            checks.due("rate at " + desk.clock(), desk.told(0, 4), want);
            desk.tick(10);
        }
        desk.admit(0, 0, 100, 1);
        desk.tick(10);
        checks.due("rate from 0", desk.told(0, 4), 1);
    }

    private static void ratesGrowUpToTheGoal() {
        checks.part("rates that grow");
        StageDesk desk = desk(END, 32, 1, 0);
        desk.admit(0, 98, 100, 2);
        desk.put(0, 1);
        desk.tick(10);
        int[] rates = {99, 100, 100};
        for (int want : rates) {
            checks.due("rate at " + desk.clock(), desk.told(0, 4), want);
            desk.tick(10);
        }
    }

    private static void ratesStayWithoutGoalOrTimes() {
        checks.part("rates that stay");
        StageDesk desk = desk(END, 32, 1, 0);
        desk.stage(END, 32, 1, 0);
        desk.stage(COPY, 32, 1, 0);
        desk.admit(0, 40, 100, 0);
        desk.admit(1, 40, 100, 1);
        desk.admit(2, 40, 100, 1);
        desk.put(0, 1);
        desk.put(2, 1);
        desk.tick(20);
        checks.due("rate without a goal", desk.told(0, 4), 40);
        checks.due("rate without times", desk.told(1, 4), 40);
        checks.due("rate of a COPY", desk.told(2, 4), 40);
        checks.due("response of a COPY", desk.told(2, 9), 0);
    }

    private static void responseIsAtNineTenths() {
        checks.part("the response");
        StageDesk desk = desk(END, 32, 1, 0);
        putMany(desk, 0, 23);
        int[] responses = {0, 2, 3, 4, 5, 6, 7, 8, 9, 10, 11, 11, 12, 13, 14, 15, 16, 17, 18, 19, 20, 21, 22};
        for (int want : responses) {
            desk.tick(1);
            checks.due("response at " + desk.clock(), desk.told(0, 9), want);
        }
        StageDesk mixed = desk(END, 32, 1, 0);
        putMany(mixed, 0, 5);
        mixed.tick(6);
        mixed.put(0, 9);
        mixed.tick(2);
        checks.due("ended()", mixed.ended(), 6);
        checks.due("response, sorted", mixed.told(0, 9), 6);
        onlyTheLastTwentyCount();
    }

    private static void onlyTheLastTwentyCount() {
        StageDesk desk = desk(END, 32, 1, 0);
        putMany(desk, 0, 10);
        desk.tick(11);
        checks.due("response", desk.told(0, 9), 11);
        for (int i = 0; i < 22; i++) {
            desk.put(0, i);
            desk.tick(2);
            if (i >= 10) {
                // Once nine are gone, 11 is the only one of the first ten above 2 that is kept, at the last place.
                checks.due("response after " + desk.ended(), desk.told(0, 9), i < 18 ? 10 : 2);
            }
        }
    }
}
