/** What a TICK does with sorts, offers, kept events, timers, and the order of stages. */
public final class TickTest {
    private static final int COPY = 0;
    private static final int SPLIT = 1;
    private static final int ROUTE = 2;
    private static final int SUM = 3;
    private static final int END = 4;

    private static final Checks checks = new Checks();

    public static void main(String[] args) {
        copyGivesToFirst();
        splitGivesEachToBoth();
        routeGoesByParity();
        sumGivesOne();
        sumIsBornWithTheFirstOfItsBatch();
        costIsForEachOfTheBatch();
        laterStagesWorkInTheSameTick();
        earlierStagesWorkInTheNextTick();
        aStageMayFeedItself();
        refusedEventsBlockThoseBehind();
        targetsStayForWhatIsKept();
        closedTargetRefusesForEver();
        reservedPlacesRefuseWorkers();
        tokensGrowBeforeTimers();
        timersGoByTheOrderOfSetting();
        timersComeBeforeWorkers();
        checks.end();
    }

    private static StageDesk desk(int... sorts) {
        StageDesk desk = new StageDesk();
        for (int sort : sorts) {
            desk.stage(sort, 32, 4, 0);
        }
        return desk;
    }

    /** Clock 11, events 0 to 11 gone from the queue; stage 0 has a batch size of 2 and will be free at tick 12. */
    private static StageDesk deskWithBatchesOfTwo(int sort) {
        StageDesk desk = new StageDesk();
        desk.stage(sort, 32, 1, 0);
        for (int i = 0; i < 12; i++) {
            desk.put(0, 0);
        }
        desk.tick(11);
        checks.due("batch size", desk.told(0, 3), 2);
        checks.worker(desk, 0, 0, 2, 0, 0);
        checks.queue(desk, 0);
        return desk;
    }

    private static void copyGivesToFirst() {
        checks.part("COPY");
        StageDesk desk = desk(COPY, END, END);
        desk.targets(0, 1, 2);
        desk.put(0, 5);
        desk.tick(1);
        checks.due("events()", desk.events(), 1);
        checks.worker(desk, 0, 0, 1, 0, 0);
        desk.tick(1);
        checks.due("events()", desk.events(), 2);
        checks.worker(desk, 0, 0, 0, 0, 0);
        checks.worker(desk, 1, 0, 1, 0, 0);
        desk.tick(1);
        checks.ended(desk, 1, 5);
        checks.due("for the first target", desk.told(1, 8), 1);
        checks.due("none for the second", desk.told(2, 8), 0);
    }

    private static void splitGivesEachToBoth() {
        checks.part("SPLIT");
        StageDesk desk = deskWithBatchesOfTwo(SPLIT);
        desk.stage(END, 32, 1, 0);
        desk.stage(END, 32, 1, 0);
        desk.tick(1);
        desk.targets(0, 1, 2);
        desk.put(0, 7);
        desk.put(0, 8);
        desk.tick(2);
        checks.due("events()", desk.events(), 18);
        checks.queue(desk, 1, 16);
        checks.queue(desk, 2, 17);
        checks.due("batches handled", desk.told(0, 7), 12);
        checks.due("events in them", desk.told(0, 8), 14);
        desk.tick(2);
        checks.ended(desk, 14, 7, 15, 7, 16, 8, 17, 8);
    }

    private static void routeGoesByParity() {
        checks.part("ROUTE");
        StageDesk desk = desk(ROUTE, END, END);
        desk.targets(0, 1, 2);
        int[] values = {4, -3, 3, -4, 0, Integer.MIN_VALUE, Integer.MAX_VALUE};
        for (int value : values) {
            desk.put(0, value);
        }
        desk.tick(9);
        checks.due("even ones", desk.told(1, 8), 4);
        checks.due("odd ones", desk.told(2, 8), 3);
        checks.ended(desk, 7, 4, 8, -3, 9, 3, 10, -4, 11, 0, 12, Integer.MIN_VALUE, 13, Integer.MAX_VALUE);
        desk.targets(0, -1, 2);
        desk.put(0, 2);
        desk.put(0, 3);
        desk.tick(4);
        checks.due("events(): none for no target", desk.events(), 17);
        checks.due("odd ones", desk.told(2, 8), 4);
    }

    private static void sumGivesOne() {
        checks.part("SUM");
        StageDesk desk = deskWithBatchesOfTwo(SUM);
        desk.stage(END, 32, 1, 0);
        desk.stage(END, 32, 1, 0);
        desk.tick(1);
        desk.targets(0, 1, 2);
        desk.put(0, Integer.MAX_VALUE);
        desk.put(0, 2);
        desk.put(0, 5);
        desk.tick(4);
        checks.ended(desk, 15, Integer.MIN_VALUE + 1, 16, 5);
        checks.due("batches handled", desk.told(0, 7), 13);
        checks.due("events in them", desk.told(0, 8), 15);
        checks.due("none for the second target", desk.told(2, 8), 0);
    }

    private static void sumIsBornWithTheFirstOfItsBatch() {
        checks.part("births");
        checks.due("the older one first", timeOfSum(2, 0), 6);
        checks.due("the younger one first", timeOfSum(0, 2), 5);
    }

    /** Of a SUM of an event from stage 2, then one from stage 3: that of cost 2 is born at 11, the other at 12. */
    private static int timeOfSum(int cost2, int cost3) {
        StageDesk desk = deskWithBatchesOfTwo(SUM);
        desk.stage(END, 32, 1, 0);
        desk.stage(COPY, 32, 1, cost2);
        desk.stage(COPY, 32, 1, cost3);
        desk.targets(2, 0, -1);
        desk.targets(3, 0, -1);
        desk.put(cost2 == 2 ? 2 : 3, 100);
        desk.tick(1);
        desk.targets(0, 1, -1);
        desk.put(cost2 == 2 ? 3 : 2, 200);
        desk.tick(5);
        checks.ended(desk, 16, 300);
        return desk.told(1, 9);
    }

    private static void costIsForEachOfTheBatch() {
        checks.part("cost");
        StageDesk desk = new StageDesk();
        desk.stage(COPY, 32, 1, 3);
        for (int i = 0; i < 6; i++) {
            desk.put(0, i);
        }
        desk.tick(1);
        checks.worker(desk, 0, 0, 1, 3, 0);
        desk.tick(2);
        checks.worker(desk, 0, 0, 1, 1, 0);
        desk.tick(1);
        checks.worker(desk, 0, 0, 1, 3, 0);
        desk.tick(9);
        checks.worker(desk, 0, 0, 2, 6, 0);
        desk.tick(5);
        checks.worker(desk, 0, 0, 2, 1, 0);
        desk.tick(1);
        checks.worker(desk, 0, 0, 0, 0, 0);
        checks.due("batches handled", desk.told(0, 7), 5);
        checks.due("events in them", desk.told(0, 8), 6);
    }

    private static void laterStagesWorkInTheSameTick() {
        checks.part("a later stage");
        StageDesk desk = desk(COPY, END);
        desk.targets(0, 1, -1);
        desk.put(0, 1);
        desk.tick(2);
        checks.due("ended()", desk.ended(), 0);
        desk.tick(1);
        checks.ended(desk, 1, 1);
        checks.due("time from the birth of the first", desk.told(1, 9), 3);
    }

    private static void earlierStagesWorkInTheNextTick() {
        checks.part("an earlier stage");
        StageDesk desk = desk(END, COPY);
        desk.targets(1, 0, -1);
        desk.put(1, 1);
        desk.tick(2);
        checks.queue(desk, 0, 1);
        desk.tick(1);
        checks.due("ended()", desk.ended(), 0);
        desk.tick(1);
        checks.ended(desk, 1, 1);
        checks.due("time from the birth of the first", desk.told(0, 9), 4);
    }

    private static void aStageMayFeedItself() {
        checks.part("a stage that is its own target");
        StageDesk desk = desk(COPY);
        desk.targets(0, 0, -1);
        desk.put(0, 1);
        desk.tick(5);
        checks.due("events()", desk.events(), 5);
        checks.worker(desk, 0, 0, 1, 0, 0);
        checks.queue(desk, 0);
    }

    /** Clock 4: SPLIT 0 keeps event 7 for the full stage 1, and what it has then for the END 2. */
    private static StageDesk deskThatKeeps() {
        StageDesk desk = new StageDesk();
        desk.stage(SPLIT, 4, 1, 0);
        desk.stage(COPY, 1, 1, 9);
        desk.stage(END, 32, 1, 0);
        desk.targets(0, 1, 2);
        desk.put(0, 1);
        desk.put(0, 2);
        desk.put(0, 3);
        desk.tick(4);
        return desk;
    }

    private static void refusedEventsBlockThoseBehind() {
        checks.part("kept events");
        StageDesk desk = deskThatKeeps();
        checks.due("events(): one is not made yet", desk.events(), 8);
        checks.worker(desk, 0, 0, 1, 0, 2);
        checks.due("refused", desk.told(1, 6), 1);
        checks.due("put(2, 99)", desk.put(2, 99), 8);
        desk.tick(7);
        checks.worker(desk, 0, 0, 1, 0, 2);
        checks.due("refused", desk.told(1, 6), 8);
        checks.due("batches handled", desk.told(0, 7), 2);
        desk.tick(1);
        checks.worker(desk, 0, 0, 0, 0, 0);
        checks.due("batches handled", desk.told(0, 7), 3);
        checks.queue(desk, 1, 7);
        checks.due("refused", desk.told(1, 6), 8);
        desk.tick(1);
        checks.ended(desk, 4, 1, 6, 2, 8, 99, 9, 3);
        checks.due("lost()", desk.lost(), 0);
    }

    private static void targetsStayForWhatIsKept() {
        checks.part("targets that change");
        StageDesk desk = deskThatKeeps();
        desk.targets(0, -1, -1);
        desk.tick(1);
        checks.worker(desk, 0, 0, 1, 0, 2);
        desk.tick(8);
        checks.queue(desk, 1, 7);
        checks.ended(desk, 4, 1, 6, 2, 8, 3);
        desk.put(0, 4);
        desk.tick(3);
        checks.due("events()", desk.events(), 10);
    }

    private static void closedTargetRefusesForEver() {
        checks.part("a closed target");
        StageDesk desk = desk(COPY, END);
        desk.targets(0, 1, -1);
        desk.close(1);
        desk.put(0, 1);
        desk.tick(21);
        checks.worker(desk, 0, 0, 1, 0, 1);
        checks.due("refused", desk.told(1, 6), 20);
        checks.due("events()", desk.events(), 2);
        checks.due("lost()", desk.lost(), 0);
        checks.due("batches handled", desk.told(0, 7), 0);
    }

    private static void reservedPlacesRefuseWorkers() {
        checks.part("reserved places");
        StageDesk desk = new StageDesk();
        desk.stage(COPY, 4, 1, 0);
        desk.stage(END, 3, 1, 0);
        desk.targets(0, 1, -1);
        desk.prepare(1, 3);
        desk.put(0, 1);
        desk.tick(3);
        checks.worker(desk, 0, 0, 1, 0, 1);
        checks.due("refused", desk.told(1, 6), 2);
        desk.abort(1);
        desk.tick(1);
        checks.worker(desk, 0, 0, 0, 0, 0);
        desk.tick(1);
        checks.ended(desk, 1, 1);
    }

    private static void tokensGrowBeforeTimers() {
        checks.part("tokens and timers");
        StageDesk desk = desk(END, END);
        desk.admit(0, 1, 1, 0);
        desk.admit(1, 0, 1, 0);
        desk.put(0, 1);
        desk.put(1, 1);
        desk.timer(0, 2, 1);
        desk.timer(1, 2, 1);
        desk.tick(1);
        checks.due("lost(): that without a token", desk.lost(), 1);
        checks.due("refused", desk.told(0, 6), 0);
        checks.due("refused", desk.told(1, 6), 1);
        checks.queue(desk, 0, 2);
        checks.queue(desk, 1);
    }

    private static void timersGoByTheOrderOfSetting() {
        checks.part("the order of timers");
        StageDesk desk = new StageDesk();
        desk.stage(END, 2, 1, 0);
        desk.timer(0, 10, 5);
        desk.timer(0, 11, 4);
        desk.timer(0, 12, 9);
        desk.tick(2);
        desk.timer(0, 13, 3);
        desk.timer(0, 14, 3);
        desk.cancel(1);
        desk.timer(0, 15, 2);
        desk.tick(2);
        checks.due("events()", desk.events(), 1);
        desk.tick(1);
        checks.due("events()", desk.events(), 4);
        checks.due("lost(): the one that was set last", desk.lost(), 1);
        desk.tick(5);
        checks.ended(desk, 0, 15, 1, 10, 2, 13, 4, 12);
    }

    private static void timersComeBeforeWorkers() {
        checks.part("timers and workers");
        StageDesk desk = desk(END);
        desk.timer(0, 1, 3);
        desk.tick(3);
        checks.worker(desk, 0, 0, 1, 0, 0);
        desk.tick(1);
        checks.ended(desk, 0, 1);
        checks.due("time", desk.told(0, 9), 1);
    }
}
