import java.util.Random;

/**
 * What was written is read, whatever happens: all that is known here is which words were written,
 * and that a write cut off by power may or may not have come to pass.
 */
public final class SurvivalTest {
    private static final int RUNS = 2000;
    private static final int CALLS = 512;

    private final Check check = new Check("SurvivalTest");
    private final Random random;
    private final WideningArray array = new WideningArray();
    private int[][] words;
    private int calls;

    private SurvivalTest(int seed) {
        random = new Random(seed);
    }

    private WideningArray call() {
        calls++;
        return array;
    }

    public static void main(String[] args) {
        for (int seed = 0; seed < RUNS; seed++) {
            SurvivalTest test = new SurvivalTest(seed);
            test.oneRun(seed);
            if (!test.check.isClean()) {
                test.check.end();
            }
        }
        System.out.println("SurvivalTest: " + RUNS + " runs");
    }

    private void oneRun(int seed) {
        int n = 3 + random.nextInt(3);
        words = new int[call().format(n)][4];
        while (calls < CALLS - 40) {
            int dice = random.nextInt(20);
            if (dice < 5) {
                writeSome(seed);
            } else if (dice < 10) {
                stepOn();
            } else if (dice < 12) {
                armPower();
            } else if (dice < 15) {
                changeDisks();
            } else {
                readSome(seed);
            }
        }
        for (int k = 0; k < 30; k++) {
            readSome(seed);
        }
    }

    private void writeSome(int seed) {
        int b = random.nextInt(words.length);
        int i = random.nextInt(4);
        int v = random.nextInt();
        try {
            if (call().write(b, i, v)) {
                words[b][i] = v;
            } else {
                check.same("seed " + seed + ": layout of an unwritten block", "2", "" + call().layout(b));
            }
        } catch (UnsupportedOperationException powerFailed) {
            call().start();
            int now = call().read(b, i);
            check.same("seed " + seed + ": a cut off write leaves either word",
                    "true", "" + (now == v || now == words[b][i]));
            words[b][i] = now;
        }
    }

    private void stepOn() {
        try {
            if (call().count(3) == 0) {
                if (call().count(0) < 6 && call().count(5) == -1 && call().count(6) == -1) {
                    call().widen();
                }
                return;
            }
            call().step();
        } catch (UnsupportedOperationException powerFailed) {
            call().start();
        }
        int capacity = call().count(1);
        if (capacity > words.length) {
            int[][] grown = new int[capacity][4];
            System.arraycopy(words, 0, grown, 0, words.length);
            words = grown;
        }
    }

    private void armPower() {
        try {
            call().crash(1 + random.nextInt(5), random.nextInt());
        } catch (IllegalArgumentException diskAbsent) {
            return;
        }
    }

    private void changeDisks() {
        try {
            if (call().count(5) != -1) {
                call().replace();
            } else if (call().count(6) != -1) {
                call().rebuild();
            } else {
                call().lose(random.nextInt(call().count(0)));
            }
        } catch (IllegalArgumentException powerIsToFail) {
            return;
        }
    }

    private void readSome(int seed) {
        int b = random.nextInt(words.length);
        int i = random.nextInt(4);
        check.due("seed " + seed + ": read(" + b + ", " + i + ")", words[b][i], () -> call().read(b, i));
    }
}
