import java.util.Random;

/** No call throws or fails to end, whatever its arguments, and also after the 512th call. */
public final class AnyCallTest {
    private static final int RUNS = 200;
    private static final int CALLS = 3000;
    private static final int PROMISED = 512;
    private static final int VALUE = 15;
    private static final int[] EDGES = {
        Integer.MIN_VALUE, Integer.MIN_VALUE + 1, -5, -2, -1, 0, 1, 2, 3, 4, 5, 7, 8, 9, 10, 32, 33, 50, 51, 100, 101,
        1000, 1001, Integer.MAX_VALUE - 1, Integer.MAX_VALUE
    };

    private static final Checks checks = new Checks();

    public static void main(String[] args) {
        for (int seed = 0; seed < RUNS; seed++) {
            checks.part("seed " + seed);
            Random random = new Random(seed);
            StageDesk desk = new StageDesk();
            for (int i = 0; i < CALLS; i++) {
                int which = random.nextInt(20);
                int answer = call(desk, random, which);
                // What later calls answer is free, but they must not throw either.
                checks.holds("call " + which + " answered " + answer,
                        i >= PROMISED || which == VALUE || answer >= StageDesk.SLOW);
            }
        }
        checks.end();
    }

    private static int call(StageDesk desk, Random random, int which) {
        int a = any(random);
        int b = any(random);
        int c = any(random);
        int d = any(random);
        switch (which) {
            case 0: return desk.stage(a, b, c, d);
            case 1: return desk.targets(a, b, c);
            case 2: return desk.admit(a, b, c, d);
            case 3: return desk.put(a, b);
            case 4: return desk.prepare(a, b);
            case 5: return desk.commit(a, b);
            case 6: return desk.abort(a);
            case 7: return desk.timer(a, b, c);
            case 8: return desk.cancel(a);
            case 9: return desk.close(random.nextInt(20) == 0 ? a : -1);
            case 10: return desk.tick(a);
            case 11: return desk.told(a, b);
            case 12: return desk.queued(a, b);
            case 13: return desk.worker(a, b, c);
            case 14: return desk.done(a);
            case VALUE: return desk.value(a);
            case 16: return desk.events();
            case 17: return desk.ended();
            case 18: return desk.lost();
            default: return desk.clock();
        }
    }

    private static int any(Random random) {
        int kind = random.nextInt(10);
        if (kind == 0) {
            return random.nextInt();
        }
        return kind < 4 ? EDGES[random.nextInt(EDGES.length)] : random.nextInt(8);
    }
}
