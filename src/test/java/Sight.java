import java.util.ArrayList;
import java.util.List;

/**
 * All that can be found out of a state: what every call that only asks answers, and what comes of
 * the calls that do something. It is asked in portions, each of an object made anew, since an object
 * is good for 512 calls.
 */
final class Sight {
    interface State {
        WideningArray make();
    }

    interface Question {
        Object ask(WideningArray x);
    }

    private record Asked(String name, Question question) {
        String answer(WideningArray x) {
            return name + ": " + Check.told(() -> question.ask(x));
        }
    }

    private static final int PORTION = 180;
    private static final List<Asked> ALL = allQuestions();
    private static final List<Asked> SHORT = shortQuestions();
    private static final List<List<Asked>> DEEDS = deeds();

    private Sight() {
    }

    static List<String> of(State state) {
        List<String> seen = new ArrayList<>();
        askAll("", state, seen);
        if (state.make().count(7) == 1) {
            askAll("after start(), ", () -> {
                WideningArray x = state.make();
                x.start();
                return x;
            }, seen);
        }
        for (List<Asked> deed : DEEDS) {
            WideningArray x = state.make();
            for (Asked asked : deed) {
                seen.add("then " + asked.answer(x));
            }
            for (Asked asked : SHORT) {
                seen.add("then, after " + deed.get(0).name() + ", " + asked.answer(x));
            }
        }
        return seen;
    }

    /** The first thing that is not the same, or an empty text. */
    static String difference(List<String> before, List<String> after) {
        for (int k = 0; k < before.size() && k < after.size(); k++) {
            if (!before.get(k).equals(after.get(k))) {
                return before.get(k) + " has become " + after.get(k);
            }
        }
        return before.size() == after.size() ? "" : "a different number of answers";
    }

    private static void askAll(String when, State state, List<String> seen) {
        for (int from = 0; from < ALL.size(); from += PORTION) {
            WideningArray x = state.make();
            for (Asked asked : ALL.subList(from, Math.min(ALL.size(), from + PORTION))) {
                seen.add(when + asked.answer(x));
            }
        }
    }

    private static List<Asked> allQuestions() {
        List<Asked> all = new ArrayList<>();
        counts(all);
        for (int b = 0; b < 160; b++) {
            int block = b;
            all.add(new Asked("layout(" + b + ")", x -> x.layout(block)));
            for (int i = 0; i < 4; i++) {
                int word = i;
                all.add(new Asked("read(" + b + ", " + i + ")", x -> x.read(block, word)));
            }
        }
        for (int r = 0; r < 32; r++) {
            int row = r;
            all.add(new Asked("good(" + r + ")", x -> x.good(row)));
        }
        for (int r = 0; r < 40; r++) {
            for (int i = 0; i < 4; i++) {
                cells(all, r, i);
            }
        }
        marks(all);
        return all;
    }

    private static List<Asked> shortQuestions() {
        List<Asked> few = new ArrayList<>();
        counts(few);
        int[] rows = {0, 1, 5, 31, 32, 33};
        for (int row : rows) {
            cells(few, row, 0);
        }
        marks(few);
        return few;
    }

    private static void counts(List<Asked> to) {
        for (int w = 0; w <= 7; w++) {
            int what = w;
            to.add(new Asked("count(" + w + ")", x -> x.count(what)));
        }
    }

    private static void cells(List<Asked> to, int row, int i) {
        for (int d = 0; d < 6; d++) {
            int disk = d;
            to.add(new Asked("cell(" + d + ", " + row + ", " + i + ")", x -> x.cell(disk, row, i)));
        }
    }

    private static void marks(List<Asked> to) {
        for (int d = 0; d < 6; d++) {
            int disk = d;
            to.add(new Asked("marks(" + d + ", 0)", x -> x.marks(disk, 0)));
            to.add(new Asked("marks(" + d + ", 1)", x -> x.marks(disk, 1)));
        }
    }

    /** They tell what no question does: whether power is to fail, and how. */
    private static List<List<Asked>> deeds() {
        Asked start = new Asked("start()", WideningArray::start);
        Asked widen = new Asked("widen()", WideningArray::widen);
        Asked step = new Asked("step()", WideningArray::step);
        Asked replace = new Asked("replace()", WideningArray::replace);
        Asked rebuild = new Asked("rebuild()", WideningArray::rebuild);
        return List.of(
                List.of(start),
                List.of(new Asked("write(0, 0, -7)", x -> x.write(0, 0, -7)), start),
                List.of(new Asked("write(of the last block)", x -> x.write(x.count(1) - 1, 0, -7)), start),
                List.of(widen, start, step),
                List.of(step, start),
                List.of(step, start, step),
                List.of(new Asked("lose(0)", x -> {
                    x.lose(0);
                    return "nothing";
                }), replace, rebuild),
                List.of(replace, rebuild),
                List.of(rebuild),
                List.of(new Asked("crash(3, 0x111)", x -> {
                    x.crash(3, 0x111);
                    return "nothing";
                }), step, start));
    }
}
