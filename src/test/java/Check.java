/** Counts and prints what is not as due. */
final class Check {
    interface Call {
        Object answer();
    }

    private final String name;
    private int checked;
    private int wrong;

    Check(String name) {
        this.name = name;
    }

    /** The answer as a text; throws.NAME where the call throws. */
    static String told(Call call) {
        try {
            return String.valueOf(call.answer());
        } catch (RuntimeException e) {
            return "throws." + e.getClass().getSimpleName();
        }
    }

    static Call plain(Runnable call) {
        return () -> {
            call.run();
            return "nothing";
        };
    }

    void due(String what, Object want, Call call) {
        same(what, String.valueOf(want), told(call));
    }

    void done(String what, Runnable call) {
        due(what, "nothing", plain(call));
    }

    void illegalState(String what, Call call) {
        due(what, "throws.IllegalStateException", call);
    }

    void illegalArgument(String what, Call call) {
        due(what, "throws.IllegalArgumentException", call);
    }

    void outOfBounds(String what, Call call) {
        due(what, "throws.IndexOutOfBoundsException", call);
    }

    void powerFails(String what, Call call) {
        due(what, "throws.UnsupportedOperationException", call);
    }

    void same(String what, String want, String got) {
        checked++;
        if (!want.equals(got)) {
            wrong++;
            if (wrong <= 40) {
                System.out.println(name + ": " + what + " answered " + got + ", due is " + want);
            }
        }
    }

    boolean isClean() {
        return wrong == 0;
    }

    void end() {
        System.out.println(name + ": " + checked + " checks, " + wrong + " wrong");
        if (wrong != 0) {
            System.exit(1);
        }
    }
}
