/** Compares answers with what is due, and tells of every one that differs. */
final class Check {
    interface Call {
        Object answer();
    }

    private int wrong = 0;
    private int made = 0;
    private String part = "";

    void part(String name) {
        part = name;
    }

    void same(String what, Object got, Object due) {
        made++;
        if (!got.equals(due)) {
            wrong++;
            System.out.println(part + ": " + what + " answered " + got + ", due is " + due);
        }
    }

    void answers(String what, Call call, Object due) {
        same(what, outcome(call), due);
    }

    void outOfBounds(String what, Call call) {
        answers(what, call, "throws.IndexOutOfBoundsException");
    }

    void illegalArgument(String what, Call call) {
        answers(what, call, "throws.IllegalArgumentException");
    }

    void illegalState(String what, Call call) {
        answers(what, call, "throws.IllegalStateException");
    }

    /** The very class of what is thrown counts, not one below it. */
    static Object outcome(Call call) {
        try {
            return call.answer();
        } catch (RuntimeException e) {
            return "throws." + e.getClass().getSimpleName();
        }
    }

    void end() {
        System.out.println(made + " checks, " + wrong + " wrong");
        if (wrong != 0) {
            System.exit(1);
        }
    }
}
