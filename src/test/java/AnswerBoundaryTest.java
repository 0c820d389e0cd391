/** The boundary cases that promises 13 to 21 name: what is asked and changes nothing. */
public final class AnswerBoundaryTest {
    private static final int BAD = StageDesk.BAD;
    private static final int NONE = Desks.NONE;
    private static final int MIN = Integer.MIN_VALUE;
    private static final int MAX = Integer.MAX_VALUE;

    private static final Checks checks = new Checks();

    public static void main(String[] args) {
        promise13FromLeastToMost();
        promise13Refusals();
        promise13Handled();
        promise13Response();
        promise13Bad();
        promise14Queue();
        promise14None();
        promise15Batch();
        promise15Rest();
        promise15Left();
        promise15Bad();
        promise16Order();
        promise16None();
        promise16Many();
        promise17Values();
        promise17None();
        promise18Made();
        promise19Ended();
        promise20Lost();
        promise21Clock();
        askingChangesNothing();
        the512thCall();
        checks.end();
    }

    private static void promise13FromLeastToMost() {
        checks.sentence("Promise 13",
                "Of a stage: 0 its queue's length, 1 reserved places, 2 workers, 3 batch size, 4 rate, 5 tokens,");
        StageDesk least = Desks.with(Desks.COPY, 1, 1, 0);
        least.admit(0, 0, 1, 0);
        least.put(0, 1);
        least.tick(1);
        checks.told(least, 0, 0, 0, 1, 1, 0, 0);
        StageDesk most = Desks.stuck(32, 4);
        Desks.fill(most, 0, 32, 1);
        checks.told(most, 0, 32, 0, 1, 1, 100, 100);
        most.tick(50);
        most.tick(50);
        checks.told(most, 0, 23, 0, 4, 8, 100, 100);
        StageDesk reserved = Desks.with(Desks.COPY, 32, 1, 0);
        for (int i = 0; i < 4; i++) {
            reserved.prepare(0, 8);
        }
        checks.told(reserved, 0, 0, 32, 1, 1, 100, 100);
    }

    private static void promise13Refusals() {
        checks.sentence("Promise 13", "6 how many offers it refused (put() that was refused, too),");
        StageDesk desk = Desks.of(Desks.END, Desks.COPY);
        desk.targets(1, 0, NONE);
        checks.due("refused, at first", desk.told(0, 6), 0);
        desk.close(0);
        desk.put(0, 1);
        checks.due("refused: a put", desk.told(0, 6), 1);
        desk.timer(0, 1, 1);
        desk.tick(1);
        checks.due("refused: a timer's event too", desk.told(0, 6), 2);
        desk.put(1, 1);
        desk.tick(2);
        checks.due("refused: a worker's event too", desk.told(0, 6), 3);
        desk.tick(3);
        checks.due("refused: each time it is offered again", desk.told(0, 6), 6);
        checks.due("refused by the stage that offers", desk.told(1, 6), 0);
        desk.put(2, 1);
        desk.prepare(0, 1);
        desk.prepare(0, 9);
        desk.commit(0, 1);
        desk.close(0);
        checks.due("refused: no offers", desk.told(0, 6), 6);
    }

    private static void promise13Handled() {
        checks.sentence("Promise 13", "7 how many batches it handled, 8 how many events stood in them,");
        StageDesk desk = Desks.of(Desks.SUM);
        Desks.fill(desk, 0, 11, 1);
        desk.tick(1);
        checks.told(desk, 0, 10, 0, 1, 1, 100, 100, 0, 0, 0);
        desk.tick(9);
        checks.told(desk, 0, 1, 0, 1, 1, 100, 100, 0, 9, 9);
        Desks.fill(desk, 0, 31, 1);
        desk.tick(10);
        checks.told(desk, 0, 22, 0, 1, 2, 100, 100, 0, 19, 19);
        desk.tick(2);
        checks.told(desk, 0, 18, 0, 1, 2, 100, 100, 0, 21, 22);
    }

    private static void promise13Response() {
        checks.sentence("Promise 13", "9 its RESPONSE (0 without TIMES).");
        StageDesk desk = Desks.with(Desks.END, 32, 1, 0);
        desk.stage(Desks.COPY, 32, 1, 0);
        checks.due("without times", desk.told(0, 9), 0);
        desk.put(0, 1);
        desk.put(1, 1);
        desk.tick(1);
        checks.due("with a batch, and no times", desk.told(0, 9), 0);
        desk.tick(1);
        checks.due("with a time", desk.told(0, 9), 2);
        checks.due("of a stage that is no END", desk.told(1, 9), 0);
        desk.tick(50);
        checks.due("long after", desk.told(0, 9), 2);
    }

    private static void promise13Bad() {
        checks.sentence("Promise 13", "BAD.");
        StageDesk desk = Desks.of(Desks.END, Desks.COPY);
        for (int stage : new int[] {-1, 2, 8, MIN, MAX}) {
            for (int what = 0; what < 10; what++) {
                checks.due("told(" + stage + ", " + what + ")", desk.told(stage, what), BAD);
            }
        }
        for (int what : new int[] {-1, 10, MIN, MAX}) {
            checks.due("told(0, " + what + ")", desk.told(0, what), BAD);
            checks.due("told(1, " + what + ")", desk.told(1, what), BAD);
        }
    }

    private static void promise14Queue() {
        checks.sentence("Promise 14", "Event i (from 0) of its queue, its number;");
        StageDesk desk = Desks.with(Desks.COPY, 32, 1, 9);
        desk.stage(Desks.COPY, 32, 1, 9);
        desk.put(1, 5);
        Desks.fill(desk, 0, 32, 5);
        for (int i = 0; i < 32; i++) {
            checks.due("queued(0, " + i + ")", desk.queued(0, i), 1 + i);
        }
        checks.queue(desk, 1, 0);
        desk.tick(1);
        checks.due("queued(0, 0), when the first is in a batch", desk.queued(0, 0), 2);
        checks.due("queued(0, 30)", desk.queued(0, 30), 32);
        checks.due("queued(0, 31)", desk.queued(0, 31), BAD);
    }

    private static void promise14None() {
        checks.sentence("Promise 14", "BAD when there is none such.");
        StageDesk desk = Desks.with(Desks.COPY, 4, 1, 9);
        checks.due("queued(0, 0), empty", desk.queued(0, 0), BAD);
        desk.put(0, 1);
        desk.put(0, 1);
        desk.prepare(0, 2);
        for (int i : new int[] {-1, 2, 3, 4, 32, MIN, MAX}) {
            checks.due("queued(0, " + i + ")", desk.queued(0, i), BAD);
        }
        for (int stage : new int[] {-1, 1, 8, MIN, MAX}) {
            checks.due("queued(" + stage + ", 0)", desk.queued(stage, 0), BAD);
        }
    }

    private static void promise15Batch() {
        checks.sentence("Promise 15", "Of a worker: what = 0 how many events its batch has (0 without one),");
        StageDesk desk = Desks.stuck(32, 2);
        Desks.fill(desk, 0, 32, 1);
        checks.worker(desk, 0, 0, 1, 0, 0);
        desk.tick(9);
        checks.worker(desk, 0, 1, 0, 0, 0);
        desk.tick(1);
        checks.worker(desk, 0, 1, 2, 0, 0);
        StageDesk eight = Desks.stuck(32, 1);
        Desks.fill(eight, 0, 32, 1);
        eight.tick(50);
        eight.tick(20);
        eight.abort(1);
        eight.tick(1);
        checks.worker(eight, 0, 0, 8, 0, 0);
    }

    private static void promise15Rest() {
        checks.sentence("Promise 15", "1 its rest of time,");
        StageDesk desk = Desks.with(Desks.COPY, 4, 1, 2);
        checks.due("without a batch", desk.worker(0, 0, 1), 0);
        desk.put(0, 1);
        checks.due("before the tick", desk.worker(0, 0, 1), 0);
        int[] rests = {2, 1, 0, 0};
        for (int want : rests) {
            desk.tick(1);
            checks.due("rest at " + desk.clock(), desk.worker(0, 0, 1), want);
        }
    }

    private static void promise15Left() {
        checks.sentence("Promise 15",
                "2 how many of what it gives were refused or still wait to be offered, when it has begun to offer.");
        StageDesk desk = Desks.with(Desks.SPLIT, 4, 1, 2);
        desk.stage(Desks.END, 2, 1, 9);
        desk.targets(0, 1, 1);
        desk.prepare(1, 2);
        checks.due("without a batch", desk.worker(0, 0, 2), 0);
        desk.put(0, 1);
        desk.tick(2);
        checks.worker(desk, 0, 0, 1, 1, 0);
        desk.tick(1);
        checks.worker(desk, 0, 0, 1, 0, 2);
        desk.abort(1);
        desk.prepare(1, 1);
        checks.worker(desk, 0, 0, 1, 0, 2);
        desk.tick(1);
        checks.worker(desk, 0, 0, 1, 0, 1);
        desk.tick(1);
        checks.worker(desk, 0, 0, 0, 0, 0);
    }

    private static void promise15Bad() {
        checks.sentence("Promise 15", "BAD.");
        StageDesk desk = Desks.with(Desks.COPY, 3, 4, 9);
        desk.tick(9);
        Desks.fill(desk, 0, 3, 1);
        desk.tick(1);
        checks.due("workers", desk.told(0, 2), 2);
        for (int worker : new int[] {-1, 2, 3, 4, MIN, MAX}) {
            checks.due("worker(0, " + worker + ", 0)", desk.worker(0, worker, 0), BAD);
        }
        for (int what : new int[] {-1, 3, MIN, MAX}) {
            checks.due("worker(0, 0, " + what + ")", desk.worker(0, 0, what), BAD);
            checks.due("worker(0, 1, " + what + ")", desk.worker(0, 1, what), BAD);
        }
        for (int stage : new int[] {-1, 1, 8, MIN, MAX}) {
            checks.due("worker(" + stage + ", 0, 0)", desk.worker(stage, 0, 0), BAD);
        }
    }

    private static void promise16Order() {
        checks.sentence("Promise 16",
                "Event i (from 0) of those that END stages handled, by the order in which that was: its number;");
        StageDesk desk = Desks.with(Desks.END, 4, 1, 3);
        desk.stage(Desks.END, 4, 1, 0);
        desk.stage(Desks.COPY, 4, 1, 0);
        desk.put(0, 10);
        desk.put(2, 11);
        desk.put(1, 12);
        desk.put(1, 13);
        desk.tick(1);
        checks.ended(desk);
        desk.tick(1);
        checks.ended(desk, 2, 12);
        desk.put(1, 14);
        desk.tick(2);
        checks.ended(desk, 2, 12, 3, 13, 0, 10, 4, 14);
    }

    private static void promise16None() {
        checks.sentence("Promise 16", "BAD when there is none such.");
        StageDesk desk = Desks.of(Desks.END);
        desk.put(0, 1);
        desk.tick(1);
        checks.due("done(0), none yet", desk.done(0), BAD);
        desk.tick(1);
        checks.due("done(0)", desk.done(0), 0);
        for (int i : new int[] {-1, 1, 2, 64, MIN, MAX}) {
            checks.due("done(" + i + ")", desk.done(i), BAD);
        }
    }

    private static void promise16Many() {
        checks.sentence("Promise 16",
                "Event i (from 0) of those that END stages handled, by the order in which that was: its number;");
        StageDesk desk = Desks.of(Desks.END);
        for (int round = 0; round < 10; round++) {
            Desks.fill(desk, 0, 32, 1000 + round);
            desk.tick(32);
        }
        desk.tick(1);
        checks.due("ended()", desk.ended(), 320);
        for (int i = 0; i < 320; i += 3) {
            checks.due("done(" + i + ")", desk.done(i), i);
            checks.due("value(" + i + ")", desk.value(i), 1000 + i / 32);
        }
        checks.due("done(319)", desk.done(319), 319);
        checks.due("done(320)", desk.done(320), BAD);
        checks.due("value(320)", desk.value(320), BAD);
    }

    private static void promise17Values() {
        checks.sentence("Promise 17", "The value of that event, i as in done().");
        int[] values = {0, 1, -2, MIN, MAX};
        StageDesk desk = Desks.of(Desks.END);
        for (int value : values) {
            desk.put(0, value);
        }
        desk.tick(6);
        for (int i = 0; i < values.length; i++) {
            checks.due("done(" + i + ")", desk.done(i), i);
            checks.due("value(" + i + ")", desk.value(i), values[i]);
        }
    }

    private static void promise17None() {
        checks.sentence("Promise 17", "BAD when there is none such (also as a value).");
        StageDesk desk = Desks.of(Desks.END);
        checks.due("value(0), none yet", desk.value(0), BAD);
        desk.put(0, BAD);
        desk.tick(2);
        checks.due("done(0)", desk.done(0), 0);
        checks.due("value(0), as a value", desk.value(0), BAD);
        for (int i : new int[] {-1, 1, 2, 64, MIN, MAX}) {
            checks.due("value(" + i + ")", desk.value(i), BAD);
        }
    }

    private static void promise18Made() {
        checks.sentence("Promise 18", "How many events were made.");
        StageDesk desk = Desks.with(Desks.COPY, 2, 1, 0);
        desk.stage(Desks.END, 1, 1, 9);
        desk.targets(0, 1, NONE);
        checks.due("at first", desk.events(), 0);
        desk.put(0, 1);
        checks.due("one that was put", desk.events(), 1);
        desk.prepare(0, 1);
        checks.due("a place that was reserved", desk.events(), 1);
        desk.put(0, 1);
        checks.due("a put that was refused", desk.events(), 1);
        desk.commit(0, 1);
        checks.due("one by commit", desk.events(), 2);
        desk.timer(0, 1, 1);
        checks.due("a timer that waits", desk.events(), 2);
        desk.tick(1);
        checks.due("a timer that was due, its event lost", desk.events(), 3);
        checks.due("lost()", desk.lost(), 1);
        desk.tick(1);
        checks.due("one that was given", desk.events(), 4);
        desk.tick(1);
        checks.due("another that was given", desk.events(), 5);
        desk.put(0, 1);
        desk.tick(1);
        checks.due("one that was put", desk.events(), 6);
        desk.tick(1);
        checks.due("one that was given and refused", desk.events(), 7);
        desk.tick(5);
        checks.due("the same, offered again", desk.events(), 7);
    }

    private static void promise19Ended() {
        checks.sentence("Promise 19", "How many events were handled by ENDs.");
        StageDesk desk = Desks.of(Desks.COPY, Desks.END, Desks.END);
        checks.due("at first", desk.ended(), 0);
        desk.put(0, 1);
        desk.put(1, 1);
        desk.put(2, 1);
        desk.tick(1);
        checks.due("those in batches", desk.ended(), 0);
        desk.tick(1);
        checks.due("one of each END, none of the COPY", desk.ended(), 2);
        desk.tick(50);
        checks.due("no more", desk.ended(), 2);
    }

    private static void promise20Lost() {
        checks.sentence("Promise 20", "How many events were lost.");
        StageDesk desk = Desks.with(Desks.COPY, 1, 1, 0);
        desk.stage(Desks.END, 1, 1, 9);
        desk.targets(0, 1, NONE);
        checks.due("at first", desk.lost(), 0);
        desk.put(0, 1);
        desk.put(0, 1);
        checks.due("a put that was refused", desk.lost(), 0);
        desk.timer(0, 1, 1);
        desk.timer(0, 1, 2);
        desk.timer(0, 1, 2);
        desk.timer(0, 1, 3);
        desk.cancel(3);
        desk.tick(1);
        checks.due("one that a full stage refused a timer", desk.lost(), 1);
        desk.tick(1);
        checks.due("one of two", desk.lost(), 2);
        desk.close(1);
        desk.tick(9);
        checks.due("what a worker keeps, and a timer that was cancelled", desk.lost(), 2);
    }

    private static void promise21Clock() {
        checks.sentence("Promise 21", "The clock.");
        StageDesk desk = new StageDesk();
        checks.due("at first", desk.clock(), 0);
        desk.tick(1);
        checks.due("after a tick", desk.clock(), 1);
        desk.tick(51);
        desk.tick(0);
        checks.due("after refused calls", desk.clock(), 1);
        desk.tick(49);
        for (int i = 0; i < 7; i++) {
            desk.tick(50);
        }
        checks.due("at the end", desk.clock(), 400);
        desk.tick(1);
        checks.due("after a refused call", desk.clock(), 400);
    }

    private static void askingChangesNothing() {
        checks.sentence("Promise 13", "9 its RESPONSE (0 without TIMES).");
        StageDesk desk = Desks.of(Desks.END, Desks.COPY);
        desk.targets(1, 0, NONE);
        Desks.fill(desk, 0, 5, 1);
        desk.tick(4);
        desk.put(0, 7);
        desk.put(1, 8);
        String first = Desks.state(desk, 2);
        checks.same("asked again", Desks.state(desk, 2), first);
        desk.tick(6);
        checks.ended(desk, 0, 1, 1, 1, 2, 1, 3, 1, 4, 1, 5, 7, 7, 8);
    }

    private static void the512thCall() {
        checks.sentence("What it is",
                "An object is used for at most 512 calls after it has been made; what later calls answer is free.");
        StageDesk ticks = Desks.of(Desks.END);
        for (int i = 1; i <= 400; i++) {
            checks.due("tick(1)", ticks.tick(1), i);
        }
        for (int call = 402; call < 512; call++) {
            checks.due("put, call " + call, ticks.put(0, call), call < 434 ? call - 402 : StageDesk.FULL);
        }
        checks.due("told(0, 6), call 512", ticks.told(0, 6), 78);
        StageDesk timers = Desks.of(Desks.END);
        for (int i = 0; i < 255; i++) {
            checks.due("timer", timers.timer(0, i, 1000), i);
            checks.due("cancel", timers.cancel(i), 1);
        }
        checks.due("timer, call 512", timers.timer(0, 1, 1), 255);
    }
}
