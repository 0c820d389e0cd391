/** Counts the answers that are not as due; each test makes one and ends with its verdict. */
final class Checks {
    private String part = "";
    private int seen;
    private int wrong;

    void part(String name) {
        part = name;
    }

    /** Names the sentence of the document that the next answers are held against; SentencesTest reads these calls. */
    void sentence(String section, String words) {
        part(section + ", \"" + words + "\"");
    }

    void due(String call, int got, int want) {
        seen++;
        if (got != want) {
            wrong++;
            if (wrong <= 50) {
                System.out.println(part + ": " + call + " answered " + got + ", due is " + want);
            }
        }
    }

    void holds(String what, boolean is) {
        due(what, is ? 1 : 0, 1);
    }

    void same(String what, String got, String want) {
        holds(what + "; it was\n" + want + "\nand is\n" + got + "\n", got.equals(want));
    }

    /** All ten answers of told(), from 0 on. */
    void told(StageDesk desk, int stage, int... want) {
        for (int what = 0; what < want.length; what++) {
            due("told(" + stage + ", " + what + ")", desk.told(stage, what), want[what]);
        }
    }

    void queue(StageDesk desk, int stage, int... numbers) {
        due("told(" + stage + ", 0)", desk.told(stage, 0), numbers.length);
        for (int i = 0; i < numbers.length; i++) {
            due("queued(" + stage + ", " + i + ")", desk.queued(stage, i), numbers[i]);
        }
        due("queued(" + stage + ", " + numbers.length + ")", desk.queued(stage, numbers.length), StageDesk.BAD);
    }

    void worker(StageDesk desk, int stage, int worker, int batch, int rest, int left) {
        String call = "worker(" + stage + ", " + worker + ", ";
        due(call + "0)", desk.worker(stage, worker, 0), batch);
        due(call + "1)", desk.worker(stage, worker, 1), rest);
        due(call + "2)", desk.worker(stage, worker, 2), left);
    }

    /** Number, then value, of each event that an END handled. */
    void ended(StageDesk desk, int... pairs) {
        due("ended()", desk.ended(), pairs.length / 2);
        for (int i = 0; i < pairs.length / 2; i++) {
            due("done(" + i + ")", desk.done(i), pairs[2 * i]);
            due("value(" + i + ")", desk.value(i), pairs[2 * i + 1]);
        }
    }

    void end() {
        System.out.println(seen + " answers looked at, " + wrong + " not as due");
        if (wrong > 0 || seen == 0) {
            System.exit(1);
        }
    }
}
