/** Counts and prints what is not as due. */
final class Check {
    interface Call {
        Object answer();
    }

    static final String ILLEGAL_STATE = "throws.IllegalStateException";
    static final String ILLEGAL_ARGUMENT = "throws.IllegalArgumentException";
    static final String OUT_OF_BOUNDS = "throws.IndexOutOfBoundsException";
    static final String POWER_FAILS = "throws.UnsupportedOperationException";

    private final String name;
    private String sentence = "";
    private int sentences;
    private int checked;
    private int wrong;

    Check(String name) {
        this.name = name;
    }

    /** The answer as a text; throws.NAME where the call throws. */
    static String told(Call call) {
        try {
            return String.valueOf(call.answer());
        } catch (RuntimeException e) {
            return "throws." + e.getClass().getSimpleName();
        }
    }

    static Call plain(Runnable call) {
        return () -> {
            call.run();
            return "nothing";
        };
    }

    /** The test of one sentence of the document: it has to look at something. */
    void sentence(String words, Runnable test) {
        int before = checked;
        sentence = "\"" + words + "\": ";
        sentences++;
        test.run();
        same("has a test", "true", "" + (checked > before));
        sentence = "";
    }

    void due(String what, Object want, Call call) {
        same(what, String.valueOf(want), told(call));
    }

    void done(String what, Runnable call) {
        due(what, "nothing", plain(call));
    }

    void illegalState(String what, Call call) {
        due(what, ILLEGAL_STATE, call);
    }

    void illegalArgument(String what, Call call) {
        due(what, ILLEGAL_ARGUMENT, call);
    }

    void outOfBounds(String what, Call call) {
        due(what, OUT_OF_BOUNDS, call);
    }

    void powerFails(String what, Call call) {
        due(what, POWER_FAILS, call);
    }

    /** The call answers so in this state, and all that can be found out of it stays the same. */
    void leaves(String what, Object want, Sight.State state, Sight.Question call) {
        due(what, want, () -> call.ask(state.make()));
        same(what + ": what has changed", "",
                Sight.difference(Sight.of(state), Sight.of(() -> called(state, call))));
    }

    static WideningArray called(Sight.State state, Sight.Question call) {
        WideningArray x = state.make();
        told(() -> call.ask(x));
        return x;
    }

    void counts(String what, WideningArray x, int... want) {
        for (int k = 0; k < want.length; k++) {
            int which = k;
            due(what + ": count(" + which + ")", want[k], () -> x.count(which));
        }
    }

    /** Word 0 of a row on disk 0, 1, .. */
    void cells(String what, WideningArray x, int row, int... want) {
        for (int k = 0; k < want.length; k++) {
            int d = k;
            due(what + ": cell(" + d + ", " + row + ", 0)", want[k], () -> x.cell(d, row, 0));
        }
    }

    /** The number in a place of disk 0, 1, .. */
    void marks(String what, WideningArray x, int place, int... want) {
        for (int k = 0; k < want.length; k++) {
            int d = k;
            due(what + ": marks(" + d + ", " + place + ")", want[k], () -> x.marks(d, place));
        }
    }

    /** Word 0 of some blocks that follow one another. */
    void words(String what, WideningArray x, int from, int... want) {
        for (int k = 0; k < want.length; k++) {
            int b = from + k;
            due(what + ": read(" + b + ", 0)", want[k], () -> x.read(b, 0));
        }
    }

    /** Where some blocks are that follow one another. */
    void layouts(String what, WideningArray x, int from, int... want) {
        for (int k = 0; k < want.length; k++) {
            int b = from + k;
            due(what + ": layout(" + b + ")", want[k], () -> x.layout(b));
        }
    }

    void same(String what, String want, String got) {
        checked++;
        if (!want.equals(got)) {
            wrong++;
            if (wrong <= 40) {
                System.out.println(name + ": " + sentence + what + " answered " + got + ", due is " + want);
            }
        }
    }

    boolean isClean() {
        return wrong == 0;
    }

    void end() {
        String ofSentences = sentences == 0 ? "" : sentences + " sentences, ";
        System.out.println(name + ": " + ofSentences + checked + " checks, " + wrong + " wrong");
        if (wrong != 0) {
            System.exit(1);
        }
    }
}
