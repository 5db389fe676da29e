/** What the tests tell and ask of a Daemonsheet again and again. */
final class Sheet {
    static final int CELLS = 12;
    static final int READINGS = 5;
    static final int SERVICES = 5;
    static final int MOST_STEPS = 40;

    private Sheet() {
    }

    // ---- what is told

    static void put(Daemonsheet x, String text) {
        x.wipe();
        for (int i = 0; i < text.length(); i++) {
            x.type(text.charAt(i));
        }
    }

    static int set(Daemonsheet x, int cell, String text) {
        put(x, text);
        return x.formula(cell);
    }

    // ---- tables that many tests begin with

    /** A service that is wanted: cell 0 holds a 1 and controls service 0. */
    static Daemonsheet wanted(int demand, int delay) {
        Daemonsheet x = new Daemonsheet();
        x.hold(0, 1);
        x.demand(0, demand, delay);
        x.control(0, 0);
        return x;
    }

    /** Service 0 stops itself in each second round, until it is cut. */
    static Daemonsheet cutOne() {
        Daemonsheet x = new Daemonsheet();
        set(x, 2, "1-l0");
        x.demand(0, 4, 0);
        Check.due("rounds up to the cut", x.control(0, 2), 41);
        Check.due("state", x.state(0), Daemonsheet.CUT);
        return x;
    }

    /** So many steps are kept; service 0 is cut, cell 3 is held, and the text is a formula. */
    static Daemonsheet filled(int steps) {
        Daemonsheet x = cutOne();
        x.hold(3, 1);
        while (x.steps() < steps) {
            // A step that changes nothing.
            x.need(4, 3, false);
        }
        put(x, "5");
        return x;
    }

    static Daemonsheet full() {
        return filled(MOST_STEPS);
    }

    /** A cut, a running and a starting service, a held cell, a stale one, and half a text. */
    static Daemonsheet busy() {
        Daemonsheet x = cutOne();
        x.hold(1, 1);
        x.demand(1, 7, 0);
        x.control(1, 1);
        x.demand(2, 5, 3);
        x.control(2, 1);
        set(x, 3, "r0+c1");
        set(x, 4, "r1");
        x.read(0, 5);
        x.tick(2);
        x.lie(1, 9);
        x.limit(1, 3);
        x.need(3, 1, true);
        put(x, "c3+");
        return x;
    }

    // ---- what is asked

    static int worthOf(String text) {
        Daemonsheet x = new Daemonsheet();
        set(x, 0, text);
        return x.value(0);
    }

    static void faultDue(String text, int want) {
        Daemonsheet x = new Daemonsheet();
        put(x, text);
        Check.due("fault of " + text, x.fault(), want);
        // A cell that the text does not name: none would hang on itself.
        Check.thrown("formula of " + text, () -> x.formula(text.contains("c7") ? 8 : 7),
                want == Daemonsheet.NONE ? "nothing" : "IllegalArgumentException");
    }

    static String states(Daemonsheet x) {
        StringBuilder all = new StringBuilder();
        for (int i = 0; i < SERVICES; i++) {
            all.append(x.state(i));
        }
        return all.toString();
    }

    /** Every answer that can be asked for, in 94 calls. */
    static String all(Daemonsheet x) {
        StringBuilder all = new StringBuilder();
        all.append("fault ").append(x.fault()).append(" steps ").append(x.steps());
        all.append(" now ").append(x.now()).append(" work ").append(x.work());
        for (int i = 0; i < CELLS; i++) {
            all.append("; cell ").append(i).append(": ").append(x.value(i)).append(' ');
            all.append(x.valueAnew(i)).append(' ').append(x.worth(i)).append(' ');
            all.append(x.depth(i)).append(' ').append(x.isStale(i));
        }
        for (int i = 0; i < SERVICES; i++) {
            all.append("; service ").append(i).append(": ").append(x.state(i)).append(' ');
            all.append(x.load(i)).append(' ').append(x.told(i)).append(' ');
            all.append(x.starts(i)).append(' ').append(x.trial(i)).append(' ').append(x.isLoop(i));
        }
        return all.toString();
    }

    // ---- what is wrong

    /** A call on a table. */
    interface On {
        void make(Daemonsheet x);
    }

    /** A call with a number that is told apart by the test. */
    interface With {
        void make(int number);
    }

    private static void noneOf(String name, int count, With call) {
        for (int number : new int[] {-1, count, Integer.MIN_VALUE, Integer.MAX_VALUE}) {
            Check.outside(name + " " + number, () -> call.make(number));
        }
    }

    static void noSuchCell(String name, With call) {
        noneOf(name, CELLS, call);
    }

    static void noSuchReading(String name, With call) {
        noneOf(name, READINGS, call);
    }

    static void noSuchService(String name, With call) {
        noneOf(name, SERVICES, call);
    }

    static void outOfRange(String name, int least, int most, With call) {
        for (int number : new int[] {least - 1, most + 1, Integer.MIN_VALUE, Integer.MAX_VALUE}) {
            Check.illegal(name + " " + number, () -> call.make(number));
        }
    }

    /** A step that is made with 39 steps kept and refused with 40. */
    static void refusedWith40Kept(On step) {
        Daemonsheet x = filled(MOST_STEPS - 1);
        step.make(x);
        Check.due("steps behind the 40th one", x.steps(), MOST_STEPS);
        Daemonsheet y = full();
        Check.refused("a 41st one", () -> step.make(y));
        Check.due("steps behind the 41st one", y.steps(), MOST_STEPS);
    }

    /** Calls that are refused leave a table as its twin is, which never saw them. */
    static void changesNothing(Daemonsheet x, Daemonsheet twin, On... calls) {
        for (On call : calls) {
            boolean thrown = false;
            try {
                call.make(x);
            } catch (RuntimeException e) {
                thrown = true;
            }
            Check.due("the call is refused", thrown, true);
        }
        Check.due("all that is asked", all(x), all(twin));
        Check.due("the letters", x.wipe(), twin.wipe());
        Check.due("one step taken back", x.undo(), twin.undo());
        Check.due("ticks behind it", x.tick(11), twin.tick(11));
        Check.due("all that is asked then", all(x), all(twin));
    }
}
