import java.util.Random;

/** Many runs of at most 512 calls, the same each time, on StageDesk and on the plain model, with like answers. */
public final class ModelTest {
    private static final int RUNS = 4000;
    private static final int CALLS = 512;
    private static final int LAST_LOOKS = 150;
    private static final int MOST_PUTS = 12;
    private static final int[] EDGES = {Integer.MIN_VALUE, -2, -1, 0, 1, 8, 9, 33, 51, 101, 1001, Integer.MAX_VALUE};

    private static final Checks checks = new Checks();

    private final Random random;
    private final StageDesk desk = new StageDesk();
    private final PlainDesk plain = new PlainDesk();
    private final boolean wild;
    private final int longestTick;
    private int stages;
    private int calls;

    private ModelTest(int seed) {
        random = new Random(seed);
        wild = seed % 5 == 0;
        longestTick = seed % 3 == 0 ? 1 : 4;
        checks.part("seed " + seed);
    }

    public static void main(String[] args) {
        int workers = 0;
        int batch = 0;
        int ended = 0;
        for (int seed = 0; seed < RUNS; seed++) {
            ModelTest test = new ModelTest(seed);
            test.makeStages();
            while (test.calls < CALLS - LAST_LOOKS - MOST_PUTS) {
                test.oneCall();
                test.lookAtOne();
                for (int s = 0; s < test.stages; s++) {
                    workers = Math.max(workers, test.plain.told(s, 2));
                    batch = Math.max(batch, test.plain.told(s, 3));
                }
            }
            test.lookAtMany();
            checks.holds("at most 512 calls", test.calls <= CALLS);
            ended = Math.max(ended, test.plain.ended());
        }
        checks.part("what the runs reach");
        checks.due("workers", workers, 4);
        checks.due("batch size", batch, 8);
        checks.holds("over 64 ended", ended > 64);
        checks.end();
    }

    private void same(String call, int got, int want) {
        calls++;
        checks.due("call " + calls + ", " + call, got, want);
    }

    private int from(int least, int most) {
        return least + random.nextInt(most - least + 1);
    }

    /** Mostly within the bounds; now and then, in a wild run, anything. */
    private int near(int least, int most) {
        if (wild && random.nextInt(12) == 0) {
            return EDGES[random.nextInt(EDGES.length)];
        }
        return from(least, most);
    }

    private int aStage() {
        return near(0, Math.max(0, stages - 1));
    }

    private int aValue() {
        return random.nextInt(4) == 0 ? random.nextInt() : from(-9, 9);
    }

    private void makeStages() {
        int many = from(1, 8);
        int mostBound = random.nextBoolean() ? 32 : 6;
        int mostCost = random.nextBoolean() ? 9 : 1;
        for (int i = 0; i < many; i++) {
            makeStage(i == many - 1 ? 4 : from(0, 4), from(1, mostBound), from(1, 4), from(0, mostCost));
        }
        for (int i = 0; i < many; i++) {
            setTargets(i, i + 1 < many ? from(i + 1, many - 1) : -1, from(-1, many - 1));
        }
    }

    private void makeStage(int sort, int bound, int cap, int cost) {
        int number = desk.stage(sort, bound, cap, cost);
        same("stage(..)", number, plain.stage(sort, bound, cap, cost));
        if (number >= 0) {
            stages++;
        }
    }

    private void setTargets(int stage, int first, int second) {
        same("targets(..)", desk.targets(stage, first, second), plain.targets(stage, first, second));
    }

    private void oneCall() {
        int kind = random.nextInt(100);
        int s = aStage();
        if (kind < 34) {
            putSome(s);
        } else if (kind < 74) {
            int many = random.nextInt(60) == 0 ? near(1, 50) : near(1, longestTick);
            same("tick(" + many + ")", desk.tick(many), plain.tick(many));
        } else if (kind < 80) {
            int places = near(1, 8);
            same("prepare(" + s + ", " + places + ")", desk.prepare(s, places), plain.prepare(s, places));
        } else if (kind < 84) {
            int value = aValue();
            same("commit(" + s + ", ..)", desk.commit(s, value), plain.commit(s, value));
        } else if (kind < 86) {
            same("abort(" + s + ")", desk.abort(s), plain.abort(s));
        } else if (kind < 93) {
            int value = aValue();
            int ticks = random.nextInt(4) == 0 ? near(1, 1000) : near(1, 12);
            same("timer(" + s + ", ..)", desk.timer(s, value, ticks), plain.timer(s, value, ticks));
        } else if (kind < 95) {
            int timer = near(0, 60);
            same("cancel(" + timer + ")", desk.cancel(timer), plain.cancel(timer));
        } else {
            seldomCall(kind, s);
        }
    }

    private void putSome(int s) {
        int many = random.nextInt(5) == 0 ? MOST_PUTS : 1;
        for (int i = 0; i < many; i++) {
            int value = aValue();
            same("put(" + s + ", ..)", desk.put(s, value), plain.put(s, value));
        }
    }

    private void seldomCall(int kind, int s) {
        if (kind < 97) {
            int rate = random.nextBoolean() ? near(0, 3) : near(0, 100);
            int depth = near(1, random.nextBoolean() ? 4 : 100);
            int goal = near(0, 30);
            same("admit(" + s + ", ..)", desk.admit(s, rate, depth, goal), plain.admit(s, rate, depth, goal));
        } else if (kind < 99) {
            setTargets(s, near(-1, stages - 1), near(-1, stages - 1));
        } else if (random.nextInt(4) == 0) {
            same("close(" + s + ")", desk.close(s), plain.close(s));
        } else {
            makeStage(near(0, 4), near(1, 32), near(1, 4), near(0, 9));
        }
    }

    private void lookAtOne() {
        int s = aStage();
        switch (random.nextInt(8)) {
            case 0:
            case 1:
                lookAtQueue(s, random.nextInt(6));
                break;
            case 2:
                lookAtWorker(s, random.nextInt(5));
                break;
            case 3:
                lookAtDone(plain.ended() - random.nextInt(4));
                break;
            case 4:
                lookAtCounts();
                break;
            default:
                int what = near(0, 9);
                same("told(" + s + ", " + what + ")", desk.told(s, what), plain.told(s, what));
                break;
        }
    }

    /** All that the calls that are left can show, from the stage on that the seed chooses. */
    private void lookAtMany() {
        lookAtCounts();
        for (int i = plain.ended(); i >= -1 && calls < CALLS - LAST_LOOKS + 30; i--) {
            lookAtDone(i);
        }
        int first = random.nextInt(Math.max(stages, 1));
        for (int i = 0; i < stages; i++) {
            lookAtStage((first + i) % stages);
        }
    }

    private void lookAtStage(int s) {
        for (int what = 0; what < 10 && calls < CALLS; what++) {
            same("told(" + s + ", " + what + ")", desk.told(s, what), plain.told(s, what));
        }
        for (int w = 0; w <= plain.told(s, 2) && calls < CALLS - 2; w++) {
            lookAtWorker(s, w);
        }
        for (int i = 0; i <= plain.told(s, 0) && calls < CALLS; i++) {
            lookAtQueue(s, i);
        }
    }

    private void lookAtCounts() {
        same("clock()", desk.clock(), plain.clock());
        same("events()", desk.events(), plain.events());
        same("ended()", desk.ended(), plain.ended());
        same("lost()", desk.lost(), plain.lost());
    }

    private void lookAtWorker(int s, int w) {
        for (int what = 0; what < 3; what++) {
            same("worker(" + s + ", " + w + ", " + what + ")", desk.worker(s, w, what), plain.worker(s, w, what));
        }
    }

    private void lookAtQueue(int s, int i) {
        same("queued(" + s + ", " + i + ")", desk.queued(s, i), plain.queued(s, i));
    }

    private void lookAtDone(int i) {
        same("done(" + i + ")", desk.done(i), plain.done(i));
        same("value(" + i + ")", desk.value(i), plain.value(i));
    }
}
