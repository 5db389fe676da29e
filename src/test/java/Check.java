/** Counts the answers that are as due, prints the others, and ends a test with its exit code. */
final class Check {
    private static int right = 0;
    private static int wrong = 0;
    private static String where = "";

    /** A call whose exception, or whose lack of one, is looked at. */
    interface Call {
        void make();
    }

    private Check() {
    }

    /** What the next answers are looked at for: it stands in front of those that are not as due. */
    static void in(String name) {
        where = name + ": ";
    }

    static int looked() {
        return right + wrong;
    }

    static int wrong() {
        return wrong;
    }

    static void due(String call, long got, long want) {
        due(call, String.valueOf(got), String.valueOf(want));
    }

    static void due(String call, boolean got, boolean want) {
        due(call, String.valueOf(got), String.valueOf(want));
    }

    static void due(String call, String got, String want) {
        if (got.equals(want)) {
            right++;
        } else {
            wrong++;
            System.out.println(where + call + " answered " + got + ", due is " + want);
        }
    }

    /** The name of the exception that the call throws is due, or "nothing". */
    static void thrown(String name, Call call, String want) {
        String got = "nothing";
        try {
            call.make();
        } catch (RuntimeException e) {
            got = e.getClass().getSimpleName();
        }
        due(name + " throws", got, want);
    }

    static void outside(String name, Call call) {
        thrown(name, call, "IndexOutOfBoundsException");
    }

    static void illegal(String name, Call call) {
        thrown(name, call, "IllegalArgumentException");
    }

    static void refused(String name, Call call) {
        thrown(name, call, "IllegalStateException");
    }

    static void end() {
        System.out.println(right + " answers as due, " + wrong + " not");
        if (wrong != 0) {
            System.exit(1);
        }
    }
}
