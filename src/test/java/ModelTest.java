import java.util.Random;

/** Many runs of calls, the same each time, on StageDesk and on the plain model: the answers must be alike. */
public final class ModelTest {
    private static final int RUNS = 400;
    private static final int CALLS = 512;
    private static final int[] EDGES = {Integer.MIN_VALUE, -2, -1, 0, 1, 8, 9, 33, 51, 101, 1001, Integer.MAX_VALUE};

    private static final Checks checks = new Checks();

    private final Random random;
    private final StageDesk desk = new StageDesk();
    private final PlainDesk plain = new PlainDesk();
    private final boolean wild;
    private final int longestTick;
    private int stages;

    private ModelTest(int seed) {
        random = new Random(seed);
        wild = seed % 5 == 0;
        longestTick = seed % 3 == 0 ? 1 : 4;
        checks.part("seed " + seed);
    }

    public static void main(String[] args) {
        int workers = 0;
        int batch = 0;
        int ended = 0;
        for (int seed = 0; seed < RUNS; seed++) {
            ModelTest test = new ModelTest(seed);
            test.makeStages();
            for (int call = 0; call < CALLS; call++) {
                test.oneCall();
                test.lookAtAll(call == CALLS - 1);
                for (int s = 0; s < test.stages; s++) {
                    workers = Math.max(workers, test.desk.told(s, 2));
                    batch = Math.max(batch, test.desk.told(s, 3));
                }
            }
            ended = Math.max(ended, test.desk.ended());
        }
        checks.part("what the runs reach");
        checks.due("workers", workers, 4);
        checks.due("batch size", batch, 8);
        checks.holds("over 64 ended", ended > 64);
        checks.end();
    }

    private int from(int least, int most) {
        return least + random.nextInt(most - least + 1);
    }

    /** Mostly within the bounds; now and then, in a wild run, anything. */
    private int near(int least, int most) {
        if (wild && random.nextInt(12) == 0) {
            return EDGES[random.nextInt(EDGES.length)];
        }
        return from(least, most);
    }

    private int aStage() {
        return near(0, Math.max(0, stages - 1));
    }

    private int aValue() {
        return random.nextInt(4) == 0 ? random.nextInt() : from(-9, 9);
    }

    private void makeStages() {
        int many = from(1, 8);
        int mostBound = random.nextBoolean() ? 32 : 6;
        int mostCost = random.nextBoolean() ? 9 : 1;
        for (int i = 0; i < many; i++) {
            makeStage(i == many - 1 ? 4 : from(0, 4), from(1, mostBound), from(1, 4), from(0, mostCost));
        }
        for (int i = 0; i < many; i++) {
            setTargets(i, i + 1 < many ? from(i + 1, many - 1) : -1, from(-1, many - 1));
        }
    }

    private void makeStage(int sort, int bound, int cap, int cost) {
        int number = desk.stage(sort, bound, cap, cost);
        checks.due("stage(..)", number, plain.stage(sort, bound, cap, cost));
        if (number >= 0) {
            stages++;
        }
    }

    private void setTargets(int stage, int first, int second) {
        checks.due("targets(..)", desk.targets(stage, first, second), plain.targets(stage, first, second));
    }

    private void oneCall() {
        int kind = random.nextInt(100);
        int s = aStage();
        if (kind < 34) {
            putSome(s);
        } else if (kind < 74) {
            int many = random.nextInt(60) == 0 ? near(1, 50) : near(1, longestTick);
            checks.due("tick(" + many + ")", desk.tick(many), plain.tick(many));
        } else if (kind < 80) {
            int places = near(1, 8);
            checks.due("prepare(" + s + ", " + places + ")", desk.prepare(s, places), plain.prepare(s, places));
        } else if (kind < 84) {
            int value = aValue();
            checks.due("commit(" + s + ", ..)", desk.commit(s, value), plain.commit(s, value));
        } else if (kind < 86) {
            checks.due("abort(" + s + ")", desk.abort(s), plain.abort(s));
        } else if (kind < 93) {
            int value = aValue();
            int ticks = random.nextInt(4) == 0 ? near(1, 1000) : near(1, 12);
            checks.due("timer(" + s + ", ..)", desk.timer(s, value, ticks), plain.timer(s, value, ticks));
        } else if (kind < 95) {
            int timer = near(0, 60);
            checks.due("cancel(" + timer + ")", desk.cancel(timer), plain.cancel(timer));
        } else {
            seldomCall(kind, s);
        }
    }

    private void putSome(int s) {
        int many = random.nextInt(5) == 0 ? 12 : 1;
        for (int i = 0; i < many; i++) {
            int value = aValue();
            checks.due("put(" + s + ", ..)", desk.put(s, value), plain.put(s, value));
        }
    }

    private void seldomCall(int kind, int s) {
        if (kind < 97) {
            int rate = random.nextBoolean() ? near(0, 3) : near(0, 100);
            int depth = near(1, random.nextBoolean() ? 4 : 100);
            int goal = near(0, 30);
            checks.due("admit(" + s + ", ..)", desk.admit(s, rate, depth, goal), plain.admit(s, rate, depth, goal));
        } else if (kind < 99) {
            setTargets(s, near(-1, stages - 1), near(-1, stages - 1));
        } else if (random.nextInt(4) == 0) {
            checks.due("close(" + s + ")", desk.close(s), plain.close(s));
        } else {
            makeStage(near(0, 4), near(1, 32), near(1, 4), near(0, 9));
        }
    }

    private void lookAtAll(boolean whole) {
        checks.due("clock()", desk.clock(), plain.clock());
        checks.due("events()", desk.events(), plain.events());
        checks.due("ended()", desk.ended(), plain.ended());
        checks.due("lost()", desk.lost(), plain.lost());
        for (int s = 0; s < stages; s++) {
            for (int what = 0; what < 10; what++) {
                checks.due("told(" + s + ", " + what + ")", desk.told(s, what), plain.told(s, what));
            }
            for (int w = 0; w < 4; w++) {
                for (int what = 0; what < 3; what++) {
                    checks.due("worker(" + s + ", " + w + ", " + what + ")",
                            desk.worker(s, w, what), plain.worker(s, w, what));
                }
            }
            for (int i = 0; i <= 32; i++) {
                checks.due("queued(" + s + ", " + i + ")", desk.queued(s, i), plain.queued(s, i));
            }
        }
        for (int i = whole ? 0 : Math.max(0, desk.ended() - 8); i <= desk.ended(); i++) {
            checks.due("done(" + i + ")", desk.done(i), plain.done(i));
            checks.due("value(" + i + ")", desk.value(i), plain.value(i));
        }
    }
}
