/** The boundary cases that the document names where it tells what a TICK does, but for the controllers. */
public final class TickBoundaryTest {
    private static final int NONE = Desks.NONE;

    private static final Checks checks = new Checks();

    public static void main(String[] args) {
        theClockGoesFirst();
        tokensGrowToTheDepth();
        tokensGrowBeforeTimersFire();
        timersFireAtTheirTickAlone();
        timersThatWereSetFirst();
        refusedTimersAreLost();
        stagesInTheirOrder();
        workersInTheirOrderTake();
        workersInTheirOrderGive();
        restFallsToZeroAndNoFurther();
        eventsAreMadeJustBeforeTheirOffer();
        refusedOnesAreKeptWithAllBehind();
        keptOnesKeepTheirTargets();
        oneOfferInATick();
        theSameEventIsOfferedAgain();
        noneBeforeTheOneAhead();
        keptOnesComeBeforeANewBatch();
        handledWhenNothingIsLeft();
        doneWhenAnEndHasHandled();
        timesGoBehindTheOthers();
        twentyTimesAreKept();
        batchesAsLargeAsMayBe();
        aNewBatchInTheSameTick();
        restIsCostTimesNumber();
        closedStagesWorkOn();
        checks.end();
    }

    private static void theClockGoesFirst() {
        checks.sentence("Terms", "A TICK: first the clock is one more.");
        StageDesk desk = Desks.of(Desks.END);
        desk.timer(0, 1, 1);
        desk.tick(2);
        checks.ended(desk, 0, 1);
        checks.due("born at 1, done at 2", desk.told(0, 9), 1);
        StageDesk put = Desks.of(Desks.END);
        put.put(0, 1);
        put.tick(2);
        checks.due("born at 0, done at 2", put.told(0, 9), 2);
    }

    private static void tokensGrowToTheDepth() {
        checks.sentence("Terms", "Then each stage's tokens grow by its rate, to its depth at most.");
        int[][] rateAndTokens = {{0, 0}, {1, 1}, {4, 4}, {5, 5}, {6, 5}, {100, 5}};
        for (int[] r : rateAndTokens) {
            StageDesk desk = Desks.of(Desks.COPY, Desks.COPY);
            for (int stage = 0; stage < 2; stage++) {
                desk.admit(stage, r[0], 5, 0);
                for (int i = 0; i < 5; i++) {
                    desk.put(stage, i);
                }
            }
            desk.close(1);
            desk.tick(1);
            checks.due("tokens with rate " + r[0], desk.told(0, 5), r[1]);
            checks.due("tokens of a closed stage with rate " + r[0], desk.told(1, 5), r[1]);
            desk.tick(2);
            checks.due("tokens after three ticks", desk.told(0, 5), Math.min(3 * r[0], 5));
        }
    }

    private static void tokensGrowBeforeTimersFire() {
        checks.sentence("Terms", "Then each stage's tokens grow by its rate, to its depth at most.");
        StageDesk desk = Desks.of(Desks.END);
        desk.admit(0, 2, 2, 0);
        desk.put(0, 1);
        desk.put(0, 2);
        for (int i = 0; i < 3; i++) {
            desk.timer(0, 3, 1);
        }
        desk.tick(1);
        checks.due("lost(): the third one finds no token", desk.lost(), 1);
        checks.due("tokens", desk.told(0, 5), 0);
        checks.queue(desk, 0, 1, 2, 3);
    }

    private static void timersFireAtTheirTickAlone() {
        checks.sentence("Terms", "Then all events due at this tick by timers are made and offered,");
        StageDesk desk = Desks.of(Desks.END);
        desk.timer(0, 1, 1);
        desk.timer(0, 2, 2);
        desk.timer(0, 3, 2);
        desk.timer(0, 4, 4);
        int[] events = {1, 3, 3, 4, 4};
        for (int want : events) {
            desk.tick(1);
            checks.due("events() at " + desk.clock(), desk.events(), want);
        }
        checks.ended(desk, 0, 1, 1, 2, 2, 3, 3, 4);
    }

    private static void timersThatWereSetFirst() {
        checks.sentence("Terms", "those that were set first before others");
        StageDesk desk = Desks.with(Desks.END, 1, 1, 9);
        desk.timer(0, 60, 5);
        desk.put(0, 50);
        desk.tick(1);
        desk.timer(0, 61, 3);
        desk.tick(1);
        desk.timer(0, 62, 2);
        desk.tick(2);
        checks.due("lost(): that which was set last", desk.lost(), 1);
        checks.queue(desk, 0, 1);
        desk.tick(1);
        checks.due("lost(): that which is due a tick later", desk.lost(), 2);
        desk.tick(14);
        checks.ended(desk, 0, 50, 1, 61);
    }

    private static void refusedTimersAreLost() {
        checks.sentence("Terms", "(what is refused then is LOST).");
        StageDesk desk = Desks.with(Desks.COPY, 1, 1, 0);
        desk.stage(Desks.COPY, 1, 1, 0);
        desk.stage(Desks.COPY, 1, 1, 0);
        desk.close(0);
        desk.prepare(1, 1);
        desk.admit(2, 0, 1, 0);
        desk.put(2, 1);
        desk.tick(1);
        for (int stage = 0; stage < 3; stage++) {
            desk.timer(stage, 1, 1);
            desk.tick(1);
            checks.due("lost()", desk.lost(), 1 + stage);
            checks.due("refused", desk.told(stage, 6), 1);
            checks.queue(desk, stage);
        }
        desk.abort(1);
        desk.admit(2, 1, 1, 0);
        desk.tick(5);
        checks.due("lost(): once each", desk.lost(), 3);
        checks.due("refused: not offered again", desk.told(1, 6), 1);
        checks.due("batches of the stage that has places again", desk.told(1, 7), 0);
        checks.due("batches of the stage that has tokens again", desk.told(2, 7), 1);
    }

    private static void stagesInTheirOrder() {
        checks.sentence("Terms", "Then for each stage, from 0 on, each of its workers, from 0 on:");
        StageDesk forth = Desks.of(Desks.COPY, Desks.END);
        forth.targets(0, 1, NONE);
        forth.put(0, 1);
        forth.tick(2);
        checks.queue(forth, 1);
        checks.worker(forth, 1, 0, 1, 0, 0);
        StageDesk back = Desks.of(Desks.END, Desks.COPY);
        back.targets(1, 0, NONE);
        back.put(1, 1);
        back.tick(2);
        checks.queue(back, 0, 1);
        checks.worker(back, 0, 0, 0, 0, 0);
    }

    private static void workersInTheirOrderTake() {
        checks.sentence("Terms", "Then for each stage, from 0 on, each of its workers, from 0 on:");
        StageDesk desk = Desks.with(Desks.END, 3, 2, 9);
        desk.tick(2);
        desk.put(0, 1);
        desk.tick(1);
        desk.put(0, 2);
        desk.put(0, 3);
        desk.tick(18);
        checks.due("workers at 21", desk.told(0, 2), 2);
        checks.due("ended()", desk.ended(), 3);
        desk.put(0, 4);
        desk.tick(1);
        checks.worker(desk, 0, 0, 1, 9, 0);
        checks.worker(desk, 0, 1, 0, 0, 0);
    }

    private static void workersInTheirOrderGive() {
        checks.sentence("Terms", "Then for each stage, from 0 on, each of its workers, from 0 on:");
        StageDesk desk = Desks.with(Desks.COPY, 1, 2, 0);
        desk.stage(Desks.END, 2, 1, 0);
        desk.targets(0, 1, NONE);
        desk.prepare(1, 2);
        desk.put(0, 70);
        desk.tick(1);
        desk.put(0, 71);
        desk.tick(11);
        checks.worker(desk, 0, 0, 1, 0, 1);
        checks.worker(desk, 0, 1, 1, 0, 1);
        desk.abort(1);
        desk.tick(1);
        checks.worker(desk, 1, 0, 1, 0, 0);
        checks.queue(desk, 1, 3);
        desk.tick(2);
        checks.ended(desk, 2, 70, 3, 71);
    }

    private static void restFallsToZeroAndNoFurther() {
        checks.sentence("Terms",
                "1 If it has a batch: its rest of time is one less, if it is above 0; if it is 0 then, it gives");
        for (int cost = 0; cost <= 9; cost++) {
            StageDesk desk = Desks.with(Desks.COPY, 1, 1, cost);
            desk.stage(Desks.END, 1, 1, 0);
            desk.close(1);
            desk.targets(0, 1, NONE);
            desk.put(0, 1);
            desk.tick(1);
            for (int rest = cost; rest > 0; rest--) {
                checks.worker(desk, 0, 0, 1, rest, 0);
                checks.due("events(): it gives nothing yet", desk.events(), 1);
                desk.tick(1);
            }
            if (cost == 0) {
                desk.tick(1);
            }
            checks.due("events(): it gives with cost " + cost, desk.events(), 2);
            checks.worker(desk, 0, 0, 1, 0, 1);
            desk.tick(3);
            checks.worker(desk, 0, 0, 1, 0, 1);
        }
    }

    /** SPLIT 2 for the ENDs 0 and 1, of which one is closed; it has offered once. */
    private static StageDesk splitWithClosed(int closed) {
        StageDesk desk = Desks.of(Desks.END, Desks.END, Desks.SPLIT);
        desk.targets(2, 0, 1);
        desk.close(closed);
        desk.put(2, 5);
        desk.tick(2);
        return desk;
    }

    private static void eventsAreMadeJustBeforeTheirOffer() {
        checks.sentence("Terms", "what its batch gives, one event after the other (made just before it is offered):");
        StageDesk second = splitWithClosed(1);
        checks.due("events(): the one that was taken, and the one that was refused", second.events(), 3);
        checks.queue(second, 0, 1);
        StageDesk first = splitWithClosed(0);
        checks.due("events(): the one behind is not made", first.events(), 2);
        checks.due("so that the next number is another's", first.put(1, 9), 2);
    }

    private static void refusedOnesAreKeptWithAllBehind() {
        checks.sentence("Terms", "one that is refused it keeps with all that come after it:");
        StageDesk second = splitWithClosed(1);
        checks.worker(second, 2, 0, 1, 0, 1);
        StageDesk first = splitWithClosed(0);
        checks.worker(first, 2, 0, 1, 0, 2);
        checks.queue(first, 1);
        StageDesk ofEight = deskWithABatchOfEight();
        ofEight.close(1);
        ofEight.tick(50);
        ofEight.tick(22);
        checks.worker(ofEight, 0, 0, 8, 0, 16);
        checks.due("refused: the first one of sixteen", ofEight.told(1, 6), 1);
    }

    /** Clock 72: SPLIT 0, with cost 9, has just begun with a batch of eight for the END 1. */
    private static StageDesk deskWithABatchOfEight() {
        StageDesk desk = Desks.with(Desks.SPLIT, 32, 1, 9);
        desk.stage(Desks.END, 32, 1, 0);
        desk.stage(Desks.END, 1, 1, 0);
        desk.prepare(2, 1);
        desk.targets(0, 2, NONE);
        Desks.fill(desk, 0, 32, 1);
        desk.tick(50);
        desk.tick(21);
        checks.due("batch size", desk.told(0, 3), 8);
        desk.targets(0, 1, 1);
        desk.abort(2);
        desk.tick(1);
        return desk;
    }

    private static void keptOnesKeepTheirTargets() {
        checks.sentence("Terms", "one that is refused it keeps with all that come after it:");
        StageDesk desk = Desks.of(Desks.END, Desks.END, Desks.SPLIT, Desks.END);
        desk.targets(2, 0, 1);
        desk.admit(0, 0, 1, 0);
        desk.put(0, 9);
        desk.put(2, 5);
        desk.tick(2);
        checks.worker(desk, 2, 0, 1, 0, 2);
        desk.targets(2, NONE, 3);
        desk.tick(1);
        checks.worker(desk, 2, 0, 1, 0, 2);
        desk.admit(0, 1, 1, 0);
        desk.tick(1);
        checks.queue(desk, 0, 2);
        checks.queue(desk, 1, 3);
        checks.due("the new target was offered nothing", desk.told(3, 5), 100);
        checks.worker(desk, 2, 0, 0, 0, 0);
        desk.put(2, 6);
        desk.tick(2);
        checks.worker(desk, 3, 0, 1, 0, 0);
    }

    private static void oneOfferInATick() {
        checks.sentence("Terms", "these are offered (again) from the next tick on,");
        StageDesk desk = splitWithClosed(0);
        for (int refused = 1; refused < 6; refused++) {
            checks.due("refused, once in each tick", desk.told(0, 6), refused);
            desk.tick(1);
        }
        StageDesk held = Desks.stuck(4, 1);
        held.tick(1);
        checks.due("refused", held.told(1, 6), 1);
        held.abort(1);
        checks.worker(held, 0, 0, 1, 0, 1);
        held.tick(1);
        checks.worker(held, 0, 0, 0, 0, 0);
        checks.due("refused", held.told(1, 6), 1);
    }

    private static void theSameEventIsOfferedAgain() {
        checks.sentence("Terms", "(the same event, not made anew),");
        StageDesk desk = Desks.stuck(4, 1);
        desk.tick(5);
        checks.due("events()", desk.events(), 2);
        checks.due("another event", desk.put(0, 9), 2);
        desk.abort(1);
        desk.tick(1);
        desk.close(1);
        desk.tick(1);
        checks.ended(desk, 1, 1);
        checks.due("the time from the first one's birth", desk.told(1, 9), 8);
    }

    private static void noneBeforeTheOneAhead() {
        checks.sentence("Terms", "none before the one ahead of it was taken");
        StageDesk desk = Desks.of(Desks.END, Desks.END, Desks.SPLIT);
        desk.targets(2, 0, 1);
        Desks.fill(desk, 0, 1, 0);
        desk.admit(0, 0, 1, 0);
        desk.put(0, 0);
        desk.put(2, 5);
        desk.tick(9);
        checks.worker(desk, 2, 0, 1, 0, 2);
        checks.due("the second target was offered nothing", desk.told(1, 5), 100);
        checks.due("and has refused nothing", desk.told(1, 6), 0);
        checks.due("events()", desk.events(), 4);
        desk.admit(0, 1, 1, 0);
        desk.tick(1);
        checks.queue(desk, 0, 3);
        checks.queue(desk, 1, 4);
        checks.worker(desk, 2, 0, 0, 0, 0);
    }

    private static void keptOnesComeBeforeANewBatch() {
        checks.sentence("Terms", "before anything else.");
        StageDesk desk = Desks.stuck(4, 1);
        desk.put(0, 2);
        desk.tick(3);
        checks.queue(desk, 0, 1);
        checks.worker(desk, 0, 0, 1, 0, 1);
        desk.abort(1);
        desk.tick(1);
        checks.queue(desk, 0);
        checks.worker(desk, 0, 0, 1, 0, 0);
        checks.worker(desk, 1, 0, 1, 0, 0);
        desk.tick(2);
        checks.ended(desk, 2, 1, 3, 2);
    }

    private static void handledWhenNothingIsLeft() {
        checks.sentence("Terms", "When nothing is left to offer, the batch is HANDLED: it has none.");
        StageDesk desk = Desks.stuck(4, 1);
        desk.tick(5);
        checks.due("batches handled while one is kept", desk.told(0, 7), 0);
        checks.due("events in them", desk.told(0, 8), 0);
        desk.abort(1);
        desk.tick(1);
        checks.due("batches handled", desk.told(0, 7), 1);
        checks.due("events in them", desk.told(0, 8), 1);
        checks.worker(desk, 0, 0, 0, 0, 0);
        StageDesk nothing = Desks.of(Desks.SUM);
        nothing.put(0, 1);
        nothing.tick(2);
        checks.due("batches that give nothing", nothing.told(0, 7), 1);
        checks.worker(nothing, 0, 0, 0, 0, 0);
    }

    private static void doneWhenAnEndHasHandled() {
        checks.sentence("Terms", "For an END all its events are DONE then:");
        StageDesk desk = Desks.with(Desks.END, 4, 1, 3);
        desk.put(0, 8);
        desk.tick(3);
        checks.ended(desk);
        checks.due("response, no times yet", desk.told(0, 9), 0);
        desk.tick(1);
        checks.ended(desk, 0, 8);
        checks.due("response", desk.told(0, 9), 4);
        StageDesk copy = Desks.of(Desks.COPY);
        copy.put(0, 8);
        copy.tick(9);
        checks.due("ended() of a COPY", copy.ended(), 0);
        checks.due("response of a COPY", copy.told(0, 9), 0);
    }

    private static void timesGoBehindTheOthers() {
        checks.sentence("Terms", "the time from birth to now of each, in their order, goes behind the stage's TIMES");
        StageDesk desk = Desks.of(Desks.END, Desks.END);
        desk.put(0, 1);
        desk.tick(2);
        desk.put(0, 2);
        desk.put(0, 3);
        desk.put(1, 4);
        desk.tick(1);
        checks.due("one time", desk.told(0, 9), 2);
        desk.tick(2);
        checks.due("three times, 2, 2 and 3", desk.told(0, 9), 3);
        checks.due("the times of another END", desk.told(1, 9), 2);
        checks.ended(desk, 0, 1, 1, 2, 3, 4, 2, 3);
    }

    private static void twentyTimesAreKept() {
        checks.sentence("Terms", "(the last 20 are kept).");
        StageDesk growing = Desks.of(Desks.END);
        Desks.fill(growing, 0, 32, 0);
        growing.tick(20);
        int[] responses = {19, 20, 21, 22, 23, 24};
        for (int i = 0; i < responses.length; i++) {
            checks.due("times", growing.ended(), 19 + i);
            checks.due("response of the times 2 to " + (20 + i), growing.told(0, 9), responses[i]);
            growing.tick(1);
        }
        // Times of 2 to 9, then of 2 alone: up to ten of them the response is the largest, later the second largest.
        StageDesk falling = Desks.with(Desks.END, 32, 1, 0);
        Desks.fill(falling, 0, 8, 0);
        falling.tick(9);
        for (int done = 9; done <= 28; done++) {
            falling.put(0, 1);
            falling.tick(2);
            checks.due("ended()", falling.ended(), done);
            checks.due("response after " + done, falling.told(0, 9), done <= 10 ? 9 : done <= 26 ? 8 : 2);
        }
    }

    private static void batchesAsLargeAsMayBe() {
        checks.sentence("Terms", "the first events of the queue, as many as BATCH says or there are, are its batch,");
        int[][] waitingAndBatch = {{0, 0}, {1, 1}, {2, 2}, {3, 2}, {32, 2}};
        for (int[] w : waitingAndBatch) {
            StageDesk desk = Desks.of(Desks.COPY);
            Desks.growBatchToTwo(desk, 0);
            Desks.fill(desk, 0, w[0], 1);
            desk.tick(1);
            checks.worker(desk, 0, 0, w[1], 0, 0);
            checks.due("the queue's length", desk.told(0, 0), w[0] - w[1]);
            checks.due("the first of the queue", desk.queued(0, 0), w[0] > w[1] ? 14 : StageDesk.BAD);
        }
    }

    private static void aNewBatchInTheSameTick() {
        checks.sentence("Terms", "2 If it has none (perhaps since just now):");
        StageDesk desk = Desks.with(Desks.END, 4, 1, 2);
        desk.put(0, 1);
        desk.put(0, 2);
        desk.tick(1);
        checks.queue(desk, 0, 1);
        desk.tick(1);
        checks.queue(desk, 0, 1);
        desk.tick(1);
        checks.ended(desk, 0, 1);
        checks.queue(desk, 0);
        checks.worker(desk, 0, 0, 1, 2, 0);
    }

    private static void restIsCostTimesNumber() {
        checks.sentence("Terms", "and its rest of time is COST times their number.");
        StageDesk desk = Desks.with(Desks.COPY, 32, 1, 9);
        desk.tick(9);
        Desks.fill(desk, 0, 3, 1);
        desk.tick(1);
        checks.due("batch size at 10", desk.told(0, 3), 2);
        checks.worker(desk, 0, 0, 1, 9, 0);
        desk.put(0, 1);
        desk.tick(9);
        checks.worker(desk, 0, 0, 2, 18, 0);
        desk.tick(1);
        checks.due("batch size at 20", desk.told(0, 3), 2);
        desk.tick(17);
        checks.worker(desk, 0, 0, 1, 9, 0);
        StageDesk most = deskWithABatchOfEight();
        checks.worker(most, 0, 0, 8, 72, 0);
        most.tick(50);
        most.tick(21);
        checks.worker(most, 0, 0, 8, 1, 0);
        most.tick(1);
        checks.due("events in the batches that it handled", most.told(0, 8), 9);
    }

    private static void closedStagesWorkOn() {
        checks.sentence("Terms", "A CLOSED stage refuses; what stands in its queue is handled still.");
        StageDesk desk = Desks.with(Desks.COPY, 8, 1, 2);
        desk.stage(Desks.END, 8, 1, 0);
        desk.targets(0, 1, NONE);
        desk.put(0, 1);
        desk.tick(1);
        desk.put(0, 2);
        desk.put(0, 3);
        desk.close(0);
        checks.due("put", desk.put(0, 4), StageDesk.SHUT);
        desk.tick(7);
        checks.ended(desk, 3, 1, 4, 2, 5, 3);
        checks.due("batches handled", desk.told(0, 7), 3);
    }
}
