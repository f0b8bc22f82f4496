/** Counts and prints what is not as it is due; a test ends with end(). */
final class Check {
    interface Call {
        Object answer();
    }

    private int wrong = 0;

    void same(String what, Object got, Object due) {
        if (!due.equals(got)) {
            wrong++;
            System.out.println(what + " answered " + got + ", due is " + due);
        }
    }

    /** The very class counts: a machine's ArrayIndexOutOfBoundsException is no IndexOutOfBoundsException here. */
    void index(String what, Call call) {
        same(what, outcome(call), "throws." + IndexOutOfBoundsException.class.getSimpleName());
    }

    void argument(String what, Call call) {
        same(what, outcome(call), "throws." + IllegalArgumentException.class.getSimpleName());
    }

    void state(String what, Call call) {
        same(what, outcome(call), "throws." + IllegalStateException.class.getSimpleName());
    }

    void end() {
        if (wrong != 0) {
            System.out.println(wrong + " answers are not as due");
            System.exit(1);
        }
    }

    static Object outcome(Call call) {
        try {
            return call.answer();
        } catch (RuntimeException e) {
            return "throws." + e.getClass().getSimpleName();
        }
    }
}
