import java.util.Random;

/** Random runs of at most 512 calls, each answer against the model's. */
public final class ModelTest {
    private static final int RUNS = 6000;
    private static final int CALLS = 512;

    private final Check check = new Check("ModelTest");

    public static void main(String[] args) {
        ModelTest test = new ModelTest();
        for (int run = 0; run < RUNS && test.check.isClean(); run++) {
            test.oneRun(run);
        }
        test.check.end();
    }

    private void oneRun(int run) {
        Random random = new Random(run);
        WideningArray array = new WideningArray();
        Model model = new Model();
        // A taste for some calls makes some runs deep in steps, others rich in trouble.
        int stepTaste = 2 + random.nextInt(25);
        int troubleTaste = random.nextInt(25);
        for (int call = 0; call < CALLS && check.isClean(); call++) {
            String at = "run " + run + ", call " + call + ": ";
            int dice = random.nextInt(100);
            if (call == 0 && random.nextInt(10) > 0) {
                format(at, array, model, 3 + random.nextInt(3));
            } else if (model.count(7) == 1 && random.nextInt(3) > 0) {
                both(at + "start()", array::start, model::start);
            } else if (dice < stepTaste) {
                both(at + "step()", array::step, model::step);
            } else if (dice < stepTaste + troubleTaste) {
                trouble(at, random, array, model);
            } else {
                service(at, random, array, model);
            }
        }
    }

    private void both(String what, Check.Call real, Check.Call due) {
        check.same(what, Check.told(due), Check.told(real));
    }

    private void format(String at, WideningArray array, Model model, int n) {
        both(at + "format(" + n + ")", () -> array.format(n), () -> model.format(n));
    }

    private void trouble(String at, Random random, WideningArray array, Model model) {
        int d = someDisk(random, model);
        int w = random.nextInt(7);
        int c = random.nextInt();
        switch (random.nextInt(8)) {
            case 0:
            case 1:
            case 2:
                both(at + "crash(" + w + ", " + c + ")",
                        Check.plain(() -> array.crash(w, c)), Check.plain(() -> model.crash(w, c)));
                break;
            case 3:
            case 4:
                both(at + "lose(" + d + ")",
                        Check.plain(() -> array.lose(d)), Check.plain(() -> model.lose(d)));
                break;
            case 5:
                both(at + "replace()", array::replace, model::replace);
                break;
            case 6:
                both(at + "rebuild()", array::rebuild, model::rebuild);
                break;
            default:
                if (random.nextInt(12) == 0) {
                    format(at, array, model, random.nextInt(10));
                } else {
                    both(at + "start()", array::start, model::start);
                }
        }
    }

    private void service(String at, Random random, WideningArray array, Model model) {
        int b = someBlock(random, model);
        int i = random.nextInt(20) == 0 ? random.nextInt(8) - 2 : random.nextInt(4);
        int v = random.nextInt();
        int d = someDisk(random, model);
        int row = someRow(random, model);
        int what = random.nextInt(11) - 1;
        switch (random.nextInt(16)) {
            case 0:
            case 1:
            case 2:
            case 3:
                both(at + "write(" + b + ", " + i + ", " + v + ")",
                        () -> array.write(b, i, v), () -> model.write(b, i, v));
                break;
            case 4:
            case 5:
            case 6:
                both(at + "read(" + b + ", " + i + ")", () -> array.read(b, i), () -> model.read(b, i));
                break;
            case 7:
            case 8:
            case 14:
            case 15:
                both(at + "cell(" + d + ", " + row + ", " + i + ")",
                        () -> array.cell(d, row, i), () -> model.cell(d, row, i));
                break;
            case 9:
                both(at + "marks(" + d + ", " + i + ")",
                        () -> array.marks(d, i), () -> model.marks(d, i));
                break;
            case 10:
                both(at + "good(" + row + ")", () -> array.good(row), () -> model.good(row));
                break;
            case 11:
                both(at + "layout(" + b + ")", () -> array.layout(b), () -> model.layout(b));
                break;
            case 12:
                both(at + "count(" + what + ")", () -> array.count(what), () -> model.count(what));
                break;
            default:
                both(at + "widen()", array::widen, model::widen);
        }
    }

    /** Often a disk that keeps the stash. */
    private static int someDisk(Random random, Model model) {
        switch (random.nextInt(4)) {
            case 0: return 0;
            case 1: return model.count(0) - 1;
            default: return random.nextInt(8) - 1;
        }
    }

    /** Often a row of the stash, or the one that is laid next. */
    private static int someRow(Random random, Model model) {
        switch (random.nextInt(4)) {
            case 0: return 32 + random.nextInt(6);
            case 1: return Math.max(0, model.count(2)) + random.nextInt(3) - 1;
            default: return random.nextInt(42) - 1;
        }
    }

    /** Often a block near the window, where the layouts meet. */
    private static int someBlock(Random random, Model model) {
        int capacity = Math.max(1, model.count(1));
        switch (random.nextInt(12)) {
            case 0: return random.nextInt(200) - 20;
            case 1: return capacity - 1 + random.nextInt(2);
            case 2:
            case 3:
            case 4:
            case 5:
                int n = Math.max(3, capacity / 32 + 1);
                return Math.max(0, model.count(2)) * n + random.nextInt(3 * n) - n;
            default: return random.nextInt(capacity);
        }
    }
}
