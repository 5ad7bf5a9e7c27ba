import java.util.LinkedHashMap;
import java.util.List;
import java.util.Map;

/** "A call that throws changes nothing, but where power fails.", for every call in many states. */
public final class RefusalsTest {
    private static final Check CHECK = new Check("RefusalsTest");
    private static final int[] EDGES = {Integer.MIN_VALUE, -1, 0, 3, 4, 31, 32, 39, 40, 63, 64, 95, 96, 159,
        160, Integer.MAX_VALUE};
    private static final int[] FEW = {-1, 0, 3, 4, 40, Integer.MAX_VALUE};

    public static void main(String[] args) {
        CHECK.sentence("A call that throws changes nothing, but where power fails.", () -> {
            Map<String, Sight.Question> calls = calls();
            states().forEach((name, state) -> refuseAll(name, state, calls));
        });
        CHECK.end();
    }

    private static void refuseAll(String name, Sight.State state, Map<String, Sight.Question> calls) {
        List<String> before = Sight.of(state);
        calls.forEach((text, call) -> {
            String answer = Check.told(() -> call.ask(state.make()));
            if (answer.startsWith("throws.") && !answer.equals(Check.POWER_FAILS)) {
                CHECK.same(name + ": " + text + ": what has changed", "",
                        Sight.difference(before, Sight.of(() -> Check.called(state, call))));
            }
        });
    }

    private static Map<String, Sight.State> states() {
        Map<String, Sight.State> all = new LinkedHashMap<>();
        all.put("a new object", WideningArray::new);
        all.put("three disks", () -> States.filled(3));
        all.put("six disks", () -> States.filled(6));
        all.put("widened", () -> States.widened(4, 0));
        all.put("stashed", () -> States.stashed(3, 5));
        all.put("the last row, stashed", () -> States.stashed(5, 31));
        all.put("a row half laid", () -> {
            WideningArray x = States.cutOffStep(States.widened(3, 5), 3, 0x0101);
            x.start();
            return x;
        });
        all.put("at the end", () -> States.widened(3, 32));
        all.put("a lost disk", () -> States.lost(States.widened(3, 5), 0));
        all.put("a lost disk, stashed", () -> States.lost(States.stashed(3, 5), 3));
        all.put("a replaced disk", () -> States.replaced(States.widened(3, 5), 3));
        all.put("a replaced disk, stashed", () -> States.replaced(States.stashed(3, 5), 0));
        all.put("power to fail", () -> States.toFail(States.filled(3), 1, 0x0100));
        all.put("power to fail, widened", () -> States.toFail(States.widened(3, 5), 3, 0x0101));
        all.put("power to fail, stashed", () -> States.toFail(States.stashed(3, 5), 2, 0x0101));
        all.put("power failed in a write", () -> States.cutOffWrite(States.filled(3), 63, 9, 0x0001));
        all.put("power failed in widen", () -> States.cutOffWiden(States.filled(3), 1, 0x1000));
        all.put("power failed in a step", () -> States.cutOffStep(States.widened(3, 5), 3, 0x0101));
        return all;
    }

    private static Map<String, Sight.Question> calls() {
        Map<String, Sight.Question> all = new LinkedHashMap<>();
        all.put("widen()", WideningArray::widen);
        all.put("step()", WideningArray::step);
        all.put("replace()", WideningArray::replace);
        all.put("rebuild()", WideningArray::rebuild);
        all.put("start()", WideningArray::start);
        for (int e : EDGES) {
            all.put("format(" + e + ")", x -> x.format(e));
            all.put("write(" + e + ", 0, 9)", x -> x.write(e, 0, 9));
            all.put("read(" + e + ", 0)", x -> x.read(e, 0));
            all.put("lose(" + e + ")", x -> {
                x.lose(e);
                return "nothing";
            });
            all.put("crash(" + e + ", 0x10)", x -> {
                x.crash(e, 0x10);
                return "nothing";
            });
            all.put("good(" + e + ")", x -> x.good(e));
            all.put("layout(" + e + ")", x -> x.layout(e));
        }
        for (int e : FEW) {
            all.put("write(0, " + e + ", 9)", x -> x.write(0, e, 9));
            all.put("read(0, " + e + ")", x -> x.read(0, e));
            all.put("cell(" + e + ", 0, 0)", x -> x.cell(e, 0, 0));
            all.put("cell(0, " + e + ", 0)", x -> x.cell(0, e, 0));
            all.put("cell(0, 0, " + e + ")", x -> x.cell(0, 0, e));
            all.put("marks(" + e + ", 0)", x -> x.marks(e, 0));
            all.put("marks(0, " + e + ")", x -> x.marks(0, e));
        }
        return all;
    }
}
