/** Promises 9 to 14: what is told of services. */
final class ServiceStepSentences {
    private static final int NONE = Daemonsheet.NONE;
    private static final int STOPPED = Daemonsheet.STOPPED;
    private static final int STARTING = Daemonsheet.STARTING;
    private static final int RUNNING = Daemonsheet.RUNNING;
    private static final int CUT = Daemonsheet.CUT;

    private static final String SERVICES = "- `service`: 0 to 4";
    private static final String CELLS_OR_NONE = "- `cell`: 0 to 11, or NONE";
    private static final String ROUNDS = "Returns the rounds.";
    private static final String NO_SERVICE =
            "Throws `IndexOutOfBoundsException` if there is no such service";
    private static final String NO_SERVICE_OR_CELL =
            "Throws `IndexOutOfBoundsException` if there is no such service or cell";
    private static final String AS_TOLD = "Throws `IllegalStateException` as told";
    private static final String CHANGES_NOTHING = "A call that throws an exception changes nothing;";
    private static final String FIRST_NAMED = "if several exceptions apply, the one that its throws "
            + "clause names first is thrown.";
    private static final String COUNTS = "and returns how many rounds there were by it.";

    private ServiceStepSentences() {
    }

    // ---- promise 9

    @Sentence(promise = 9, says = "Lets a cell control a service.")
    static void p09_controls() {
        Daemonsheet x = new Daemonsheet();
        x.hold(3, 1);
        x.control(2, 3);
        Check.due("state", Sheet.states(x), "00200");
        x.control(2, 4);
        Check.due("another cell in its place", Sheet.states(x), "00000");
        x.control(1, 3);
        x.control(2, 3);
        Check.due("one cell, two services", Sheet.states(x), "02200");
    }

    @Sentence(promise = 9, says = SERVICES)
    static void p09_services() {
        for (int i = 0; i < 5; i++) {
            Daemonsheet x = new Daemonsheet();
            x.hold(0, 1);
            x.control(i, 0);
            Check.due("state of " + i, x.state(i), RUNNING);
            Check.due("starts of " + i, x.starts(i), 1);
        }
    }

    @Sentence(promise = 9, says = CELLS_OR_NONE)
    static void p09_cells() {
        for (int i = 0; i < 12; i++) {
            Daemonsheet x = new Daemonsheet();
            x.hold(i, 1);
            x.control(0, i);
            Check.due("controlled by " + i, x.state(0), RUNNING);
            x.control(0, NONE);
            Check.due("controlled by none", x.state(0), STOPPED);
        }
    }

    @Sentence(promise = 9, says = ROUNDS)
    static void p09_rounds() {
        Daemonsheet x = new Daemonsheet();
        Check.due("by a cell that is 0", x.control(0, 0), 1);
        x.hold(1, 1);
        Check.due("by a cell that is 1", x.control(0, 1), 2);
        Check.due("by the same once more", x.control(0, 1), 1);
        Check.due("by none", x.control(0, NONE), 2);
        Check.due("by none once more", x.control(0, NONE), 1);
    }

    @Sentence(promise = 9, says = NO_SERVICE_OR_CELL)
    static void p09_noSuchServiceOrCell() {
        Daemonsheet x = new Daemonsheet();
        Sheet.noSuchService("control", service -> x.control(service, 0));
        Sheet.noSuchService("control by none", service -> x.control(service, NONE));
        for (int cell : new int[] {-2, 12, Integer.MIN_VALUE, Integer.MAX_VALUE}) {
            Check.outside("control by " + cell, () -> x.control(0, cell));
        }
    }

    @Sentence(promise = 9, says = AS_TOLD)
    static void p09_fortyKept() {
        Sheet.refusedWith40Kept(x -> x.control(0, 0));
        Sheet.refusedWith40Kept(x -> x.control(4, NONE));
    }

    @Sentence(promise = 9, ahead = true, says = CHANGES_NOTHING)
    static void p09_changesNothing() {
        Sheet.changesNothing(Sheet.busy(), Sheet.busy(), x -> x.control(1, 12),
                x -> x.control(1, -2), x -> x.control(5, 0), x -> x.control(-1, NONE));
        Sheet.changesNothing(Sheet.full(), Sheet.full(), x -> x.control(1, 3));
    }

    @Sentence(promise = 9, ahead = true, says = FIRST_NAMED)
    static void p09_placesThenState() {
        Daemonsheet x = Sheet.full();
        Check.refused("a service and a cell", () -> x.control(4, 11));
        Check.outside("no service", () -> x.control(5, 11));
        Check.outside("no cell", () -> x.control(4, 12));
        Check.outside("neither", () -> x.control(-1, -2));
    }

    @Sentence(promise = 9, ahead = true, says = COUNTS)
    static void p09_countsEachRound() {
        Daemonsheet x = new Daemonsheet();
        Sheet.set(x, 1, "1-l0");
        x.demand(0, 1, 0);
        Check.due("up to the cut, and one behind it", x.control(0, 1), 41);
    }

    // ---- promise 10

    @Sentence(promise = 10, says = "Lets a cell limit a service.")
    static void p10_limits() {
        Daemonsheet x = Sheet.wanted(9, 0);
        x.hold(1, 5);
        x.limit(0, 1);
        Check.due("limited", x.load(0), 5);
        x.hold(2, 6);
        x.limit(0, 2);
        Check.due("by another cell in its place", x.load(0), 6);
        x.limit(0, 0);
        Check.due("by the cell that controls it", x.load(0), 1);
    }

    @Sentence(promise = 10, says = SERVICES)
    static void p10_services() {
        for (int i = 0; i < 5; i++) {
            Daemonsheet x = new Daemonsheet();
            x.hold(0, 1);
            x.demand(i, 9, 0);
            x.control(i, 0);
            x.limit((i + 1) % 5, 0);
            Check.due("another one is limited", x.load(i), 9);
            x.limit(i, 0);
            Check.due("load of " + i, x.load(i), 1);
        }
    }

    @Sentence(promise = 10, says = CELLS_OR_NONE)
    static void p10_cells() {
        Daemonsheet x = new Daemonsheet();
        x.hold(0, 20);
        x.demand(0, 19, 0);
        x.control(0, 0);
        for (int i = 1; i < 12; i++) {
            x.hold(i, i);
            x.limit(0, i);
            Check.due("limited by " + i, x.load(0), i);
        }
        x.limit(0, 0);
        Check.due("limited by 0", x.load(0), 19);
        x.limit(0, 1);
        x.limit(0, NONE);
        Check.due("limited by none", x.load(0), 19);
    }

    @Sentence(promise = 10, says = ROUNDS)
    static void p10_rounds() {
        Daemonsheet x = Sheet.wanted(9, 0);
        Check.due("a lesser load", x.limit(0, 0), 2);
        Check.due("the same once more", x.limit(0, 0), 1);
        Check.due("none", x.limit(0, NONE), 2);
        Check.due("of one that is STOPPED", x.limit(1, 0), 1);
    }

    @Sentence(promise = 10, says = NO_SERVICE_OR_CELL)
    static void p10_noSuchServiceOrCell() {
        Daemonsheet x = new Daemonsheet();
        Sheet.noSuchService("limit", service -> x.limit(service, 0));
        Sheet.noSuchService("limit by none", service -> x.limit(service, NONE));
        for (int cell : new int[] {-2, 12, Integer.MIN_VALUE, Integer.MAX_VALUE}) {
            Check.outside("limit by " + cell, () -> x.limit(0, cell));
        }
    }

    @Sentence(promise = 10, says = AS_TOLD)
    static void p10_fortyKept() {
        Sheet.refusedWith40Kept(x -> x.limit(0, 0));
        Sheet.refusedWith40Kept(x -> x.limit(4, NONE));
    }

    @Sentence(promise = 10, ahead = true, says = CHANGES_NOTHING)
    static void p10_changesNothing() {
        Sheet.changesNothing(Sheet.busy(), Sheet.busy(), x -> x.limit(1, 12),
                x -> x.limit(1, -2), x -> x.limit(5, 0), x -> x.limit(-1, NONE));
        Sheet.changesNothing(Sheet.full(), Sheet.full(), x -> x.limit(0, 2));
    }

    @Sentence(promise = 10, ahead = true, says = FIRST_NAMED)
    static void p10_placesThenState() {
        Daemonsheet x = Sheet.full();
        Check.refused("a service and a cell", () -> x.limit(4, 11));
        Check.outside("no service", () -> x.limit(5, 11));
        Check.outside("no cell", () -> x.limit(4, 12));
        Check.outside("neither", () -> x.limit(-1, -2));
    }

    @Sentence(promise = 10, ahead = true, says = COUNTS)
    static void p10_countsEachRound() {
        Daemonsheet x = Sheet.wanted(9, 0);
        Sheet.set(x, 1, "9-l0");
        Check.due("up to the cut, and one behind it", x.limit(0, 1), 41);
        Check.due("it is cut", x.state(0), CUT);
    }

    // ---- promise 11

    @Sentence(promise = 11, says = "Sets the demand and the delay of a service.")
    static void p11_sets() {
        Daemonsheet x = Sheet.wanted(3, 0);
        x.demand(0, 8, 2);
        Check.due("the demand, at once", x.load(0), 8);
        Check.due("the delay stops nothing", x.state(0), RUNNING);
        x.hold(0, 0);
        x.hold(0, 1);
        Check.due("the delay, when it starts", x.state(0), STARTING);
        x.tick(2);
        Check.due("its state then", x.state(0), RUNNING);
        Check.due("its load then", x.load(0), 8);
    }

    @Sentence(promise = 11, says = SERVICES)
    static void p11_services() {
        for (int i = 0; i < 5; i++) {
            Daemonsheet x = new Daemonsheet();
            x.hold(0, 1);
            x.demand(i, 9, 1);
            x.control(i, 0);
            x.control((i + 1) % 5, 0);
            Check.due("state of " + i, x.state(i), STARTING);
            Check.due("state of another one", x.state((i + 1) % 5), RUNNING);
            x.tick(1);
            Check.due("load of " + i, x.load(i), 9);
            Check.due("load of another one", x.load((i + 1) % 5), 0);
        }
    }

    @Sentence(promise = 11, says = "- `demand`: 0 to 1000")
    static void p11_demands() {
        Daemonsheet x = Sheet.wanted(3, 0);
        for (int demand : new int[] {0, 1, 999, 1000}) {
            x.demand(0, demand, 0);
            Check.due("demand of " + demand, x.load(0), demand);
        }
    }

    @Sentence(promise = 11, says = "- `delay`: 0 to 10")
    static void p11_delays() {
        for (int delay = 0; delay <= 10; delay++) {
            Daemonsheet x = Sheet.wanted(3, delay);
            for (int i = 0; i < delay; i++) {
                Check.due("tick " + i + " of " + delay, x.state(0), STARTING);
                x.tick(1);
            }
            Check.due("after " + delay, x.state(0), RUNNING);
        }
    }

    @Sentence(promise = 11, says = ROUNDS)
    static void p11_rounds() {
        Daemonsheet x = Sheet.wanted(3, 0);
        Check.due("the same demand", x.demand(0, 3, 0), 1);
        Check.due("another delay", x.demand(0, 3, 9), 1);
        Check.due("another demand", x.demand(0, 4, 9), 2);
        Check.due("of one that is STOPPED", x.demand(1, 4, 9), 1);
    }

    @Sentence(promise = 11, says = NO_SERVICE)
    static void p11_noSuchService() {
        Daemonsheet x = new Daemonsheet();
        Sheet.noSuchService("demand", service -> x.demand(service, 0, 0));
    }

    @Sentence(promise = 11,
            says = "Throws `IllegalArgumentException` if demand or delay is out of range")
    static void p11_outOfRange() {
        Daemonsheet x = new Daemonsheet();
        Sheet.outOfRange("demand", 0, 1000, demand -> x.demand(0, demand, 10));
        Sheet.outOfRange("delay", 0, 10, delay -> x.demand(0, 1000, delay));
        Check.illegal("both", () -> x.demand(0, 1001, 11));
        Check.due("steps", x.steps(), 0);
    }

    @Sentence(promise = 11, says = AS_TOLD)
    static void p11_fortyKept() {
        Sheet.refusedWith40Kept(x -> x.demand(0, 0, 0));
        Sheet.refusedWith40Kept(x -> x.demand(4, 1000, 10));
    }

    @Sentence(promise = 11, ahead = true, says = CHANGES_NOTHING)
    static void p11_changesNothing() {
        Sheet.changesNothing(Sheet.busy(), Sheet.busy(), x -> x.demand(1, 1001, 1),
                x -> x.demand(1, -1, 1), x -> x.demand(1, 2, 11), x -> x.demand(1, 2, -1),
                x -> x.demand(5, 2, 1));
        Sheet.changesNothing(Sheet.full(), Sheet.full(), x -> x.demand(0, 9, 1));
    }

    @Sentence(promise = 11, ahead = true, says = FIRST_NAMED)
    static void p11_serviceThenNumbersThenState() {
        Daemonsheet x = Sheet.full();
        Check.refused("a demand and a delay", () -> x.demand(0, 1000, 10));
        Check.illegal("no demand", () -> x.demand(0, 1001, 10));
        Check.illegal("no delay", () -> x.demand(0, 1000, 11));
        Check.outside("no service", () -> x.demand(5, 1000, 10));
        Check.outside("none of all", () -> x.demand(-1, -1, -1));
    }

    @Sentence(promise = 11, ahead = true, says = COUNTS)
    static void p11_countsEachRound() {
        Daemonsheet x = new Daemonsheet();
        Sheet.set(x, 1, "1-l0");
        x.control(0, 1);
        Check.due("without a demand it runs", x.state(0), RUNNING);
        Check.due("up to the cut, and one behind it", x.demand(0, 1, 0), 41);
    }

    // ---- promise 12

    @Sentence(promise = 12, says = "Lets a service need another one, or no more.")
    static void p12_needs() {
        Daemonsheet x = Sheet.wanted(3, 0);
        x.need(0, 1, true);
        Check.due("it needs one that is STOPPED", x.state(0), STOPPED);
        x.control(1, 0);
        Check.due("one that runs", x.state(0), RUNNING);
        x.control(1, NONE);
        x.need(0, 1, false);
        Check.due("no more", x.state(0), RUNNING);
        x.need(0, 1, true);
        x.need(1, 0, true);
        x.control(1, 0);
        Check.due("each needs the other one", Sheet.states(x), "00000");
    }

    @Sentence(promise = 12, says = SERVICES)
    static void p12_services() {
        for (int i = 0; i < 5; i++) {
            Daemonsheet x = new Daemonsheet();
            x.hold(0, 1);
            x.need((i + 1) % 5, (i + 2) % 5, true);
            x.control(i, 0);
            Check.due("another one needs one", x.state(i), RUNNING);
            x.need(i, (i + 2) % 5, true);
            Check.due("state of " + i, x.state(i), STOPPED);
        }
    }

    @Sentence(promise = 12, says = "- `other`: 0 to 4")
    static void p12_others() {
        for (int i = 0; i < 5; i++) {
            int service = i == 0 ? 4 : 0;
            Daemonsheet x = new Daemonsheet();
            x.hold(0, 1);
            x.need(service, i, true);
            x.control(service, 0);
            Check.due("it waits for " + i, x.state(service), STOPPED);
            x.control(i, 0);
            Check.due("it runs with " + i, x.state(service), RUNNING);
        }
    }

    @Sentence(promise = 12, says = "- `needs`: true if it needs it from then on")
    static void p12_fromThenOn() {
        Daemonsheet x = Sheet.wanted(3, 0);
        x.need(0, 2, false);
        Check.due("one that it never needed", x.state(0), RUNNING);
        x.need(0, 2, true);
        x.tick(5);
        x.hold(0, 2);
        Check.due("behind other steps", x.state(0), STOPPED);
        x.need(0, 2, false);
        x.tick(5);
        Check.due("needed no more", x.state(0), RUNNING);
    }

    @Sentence(promise = 12, says = ROUNDS)
    static void p12_rounds() {
        Daemonsheet x = Sheet.wanted(3, 0);
        Check.due("it stops", x.need(0, 1, true), 2);
        Check.due("the same once more", x.need(0, 1, true), 1);
        Check.due("one more", x.need(0, 2, true), 1);
        Check.due("one less", x.need(0, 1, false), 1);
        Check.due("it starts", x.need(0, 2, false), 2);
    }

    @Sentence(promise = 12,
            says = "Throws `IndexOutOfBoundsException` if there is no such service or other")
    static void p12_noSuchServiceOrOther() {
        Daemonsheet x = new Daemonsheet();
        Sheet.noSuchService("need", service -> x.need(service, 0, true));
        Sheet.noSuchService("need for", other -> x.need(0, other, true));
        Sheet.noSuchService("no need", service -> x.need(service, 0, false));
        Sheet.noSuchService("no need for", other -> x.need(0, other, false));
    }

    @Sentence(promise = 12, says = "Throws `IllegalArgumentException` if both are the same")
    static void p12_bothAreTheSame() {
        Daemonsheet x = new Daemonsheet();
        for (int i = 0; i < 5; i++) {
            int service = i;
            Check.illegal("need for itself", () -> x.need(service, service, true));
            Check.illegal("no need for itself", () -> x.need(service, service, false));
        }
        Check.due("steps", x.steps(), 0);
    }

    @Sentence(promise = 12, says = AS_TOLD)
    static void p12_fortyKept() {
        Sheet.refusedWith40Kept(x -> x.need(0, 1, true));
        Sheet.refusedWith40Kept(x -> x.need(4, 3, false));
    }

    @Sentence(promise = 12, ahead = true, says = CHANGES_NOTHING)
    static void p12_changesNothing() {
        Sheet.changesNothing(Sheet.busy(), Sheet.busy(), x -> x.need(1, 1, true),
                x -> x.need(1, 5, true), x -> x.need(-1, 1, true), x -> x.need(3, -1, false));
        Sheet.changesNothing(Sheet.full(), Sheet.full(), x -> x.need(0, 1, true));
    }

    @Sentence(promise = 12, ahead = true, says = FIRST_NAMED)
    static void p12_placesThenSameThenState() {
        Daemonsheet x = Sheet.full();
        Check.refused("two services", () -> x.need(0, 4, true));
        Check.illegal("one service", () -> x.need(4, 4, true));
        Check.outside("no service", () -> x.need(5, 4, true));
        Check.outside("no other", () -> x.need(4, -1, true));
        Check.outside("one that is none", () -> x.need(5, 5, true));
    }

    @Sentence(promise = 12, ahead = true, says = COUNTS)
    static void p12_countsEachRound() {
        Daemonsheet x = new Daemonsheet();
        Sheet.set(x, 1, "1-l0");
        x.demand(0, 1, 0);
        x.need(0, 1, true);
        x.control(0, 1);
        Check.due("up to the cut, and one behind it", x.need(0, 1, false), 41);
    }

    // ---- promise 13

    @Sentence(promise = 13, says = "Lets a service lie, or no more.")
    static void p13_lies() {
        Daemonsheet x = Sheet.wanted(3, 0);
        x.lie(0, 8);
        Check.due("told", x.told(0), 8);
        Check.due("load", x.load(0), 3);
        x.lie(0, 9);
        Check.due("another lie in its place", x.told(0), 9);
        x.lie(0, NONE);
        Check.due("no more", x.told(0), 3);
    }

    @Sentence(promise = 13, says = SERVICES)
    static void p13_services() {
        for (int i = 0; i < 5; i++) {
            Daemonsheet x = new Daemonsheet();
            x.hold(0, 1);
            x.control(i, 0);
            x.lie((i + 1) % 5, 4);
            Check.due("another one lies", x.told(i), 0);
            x.lie(i, 5);
            Check.due("told by " + i, x.told(i), 5);
        }
    }

    @Sentence(promise = 13, says = "- `load`: 0 to 1000, or NONE for no lie")
    static void p13_loads() {
        Daemonsheet x = Sheet.wanted(3, 0);
        for (int load : new int[] {0, 1, 999, 1000}) {
            x.lie(0, load);
            Check.due("lie of " + load, x.told(0), load);
        }
        x.lie(0, NONE);
        Check.due("no lie", x.told(0), 3);
        x.lie(0, NONE);
        Check.due("no lie once more", x.told(0), 3);
    }

    @Sentence(promise = 13, says = ROUNDS)
    static void p13_rounds() {
        Daemonsheet x = Sheet.wanted(3, 0);
        Check.due("its load as its lie", x.lie(0, 3), 1);
        Check.due("another lie", x.lie(0, 4), 2);
        Check.due("the same lie", x.lie(0, 4), 1);
        Check.due("no lie", x.lie(0, NONE), 2);
        Check.due("of one that is STOPPED", x.lie(1, 4), 1);
    }

    @Sentence(promise = 13, says = NO_SERVICE)
    static void p13_noSuchService() {
        Daemonsheet x = new Daemonsheet();
        Sheet.noSuchService("lie", service -> x.lie(service, 0));
        Sheet.noSuchService("no lie", service -> x.lie(service, NONE));
    }

    @Sentence(promise = 13, says = "Throws `IllegalArgumentException` if load is out of range")
    static void p13_outOfRange() {
        Daemonsheet x = Sheet.wanted(3, 0);
        for (int load : new int[] {-2, 1001, Integer.MIN_VALUE, Integer.MAX_VALUE}) {
            Check.illegal("lie of " + load, () -> x.lie(0, load));
        }
        Check.due("told", x.told(0), 3);
    }

    @Sentence(promise = 13, says = AS_TOLD)
    static void p13_fortyKept() {
        Sheet.refusedWith40Kept(x -> x.lie(0, 0));
        Sheet.refusedWith40Kept(x -> x.lie(4, NONE));
    }

    @Sentence(promise = 13, ahead = true, says = CHANGES_NOTHING)
    static void p13_changesNothing() {
        Sheet.changesNothing(Sheet.busy(), Sheet.busy(), x -> x.lie(1, 1001), x -> x.lie(1, -2),
                x -> x.lie(5, 1), x -> x.lie(-1, NONE));
        Sheet.changesNothing(Sheet.full(), Sheet.full(), x -> x.lie(0, 7));
    }

    @Sentence(promise = 13, ahead = true, says = FIRST_NAMED)
    static void p13_serviceThenLoadThenState() {
        Daemonsheet x = Sheet.full();
        Check.refused("a load", () -> x.lie(0, 1000));
        Check.refused("none", () -> x.lie(0, NONE));
        Check.illegal("no load", () -> x.lie(0, -2));
        Check.outside("no service", () -> x.lie(5, 1000));
        Check.outside("neither", () -> x.lie(-1, 1001));
    }

    @Sentence(promise = 13, ahead = true, says = COUNTS)
    static void p13_countsEachRound() {
        Daemonsheet x = new Daemonsheet();
        Sheet.set(x, 1, "1-l0");
        x.control(0, 1);
        Check.due("up to the cut, and one behind it", x.lie(0, 1), 41);
    }

    // ---- promise 14

    @Sentence(promise = 14, says = "Lets a service that is CUT be STOPPED.")
    static void p14_mends() {
        Daemonsheet x = Sheet.cutOne();
        x.control(0, NONE);
        Check.due("CUT", x.state(0), CUT);
        x.mend(0);
        Check.due("STOPPED", x.state(0), STOPPED);
        Daemonsheet y = Sheet.cutOne();
        y.hold(2, 1);
        y.mend(0);
        Check.due("wanted, it starts from there", y.state(0), RUNNING);
        Check.due("starts", y.starts(0), 21);
        Daemonsheet z = Sheet.cutOne();
        Sheet.set(z, 2, "r0+1");
        z.mend(0);
        Check.due("by a stale cell it does not", z.state(0), STOPPED);
        Daemonsheet w = Sheet.cutOne();
        w.hold(2, 1);
        w.demand(0, 4, 2);
        w.mend(0);
        Check.due("with a delay it is STARTING", w.state(0), STARTING);
    }

    @Sentence(promise = 14, says = SERVICES)
    static void p14_services() {
        Daemonsheet x = new Daemonsheet();
        for (int i = 0; i < 5; i++) {
            Sheet.set(x, i + 1, "1-l" + i);
            x.demand(i, 1, 0);
            x.control(i, i + 1);
        }
        Check.due("all are cut", Sheet.states(x), "33333");
        for (int i = 0; i < 5; i++) {
            x.hold(i + 1, 0);
            x.mend(i);
            Check.due("state of " + i, x.state(i), STOPPED);
        }
        Check.due("all are STOPPED", Sheet.states(x), "00000");
    }

    @Sentence(promise = 14, says = ROUNDS)
    static void p14_rounds() {
        Daemonsheet x = Sheet.cutOne();
        x.hold(2, 0);
        Check.due("not wanted", x.mend(0), 1);
        Daemonsheet y = Sheet.cutOne();
        y.hold(2, 1);
        Check.due("wanted", y.mend(0), 2);
    }

    @Sentence(promise = 14, says = NO_SERVICE)
    static void p14_noSuchService() {
        Daemonsheet x = Sheet.cutOne();
        Sheet.noSuchService("mend", x::mend);
    }

    @Sentence(promise = 14, says = "Throws `IllegalStateException` if it is not CUT, or as told")
    static void p14_notCutOrFortyKept() {
        Daemonsheet x = Sheet.busy();
        Check.refused("RUNNING", () -> x.mend(1));
        Check.refused("STARTING", () -> x.mend(2));
        Check.refused("STOPPED", () -> x.mend(3));
        x.hold(2, 0);
        x.mend(0);
        Check.refused("mended", () -> x.mend(0));
        Sheet.refusedWith40Kept(y -> y.mend(0));
    }

    @Sentence(promise = 14, ahead = true, says = CHANGES_NOTHING)
    static void p14_changesNothing() {
        Sheet.changesNothing(Sheet.busy(), Sheet.busy(), x -> x.mend(1), x -> x.mend(2),
                x -> x.mend(3), x -> x.mend(5), x -> x.mend(-1));
        Sheet.changesNothing(Sheet.full(), Sheet.full(), x -> x.mend(0));
    }

    @Sentence(promise = 14, ahead = true, says = FIRST_NAMED)
    static void p14_serviceThenState() {
        Daemonsheet x = Sheet.full();
        Check.refused("one that is CUT", () -> x.mend(0));
        Check.refused("one that is not", () -> x.mend(1));
        Check.outside("no service", () -> x.mend(5));
        Check.outside("no service in a new table", () -> new Daemonsheet().mend(-1));
    }

    @Sentence(promise = 14, ahead = true, says = COUNTS)
    static void p14_countsEachRound() {
        Check.due("up to the next cut, and one behind it", Sheet.cutOne().mend(0), 41);
    }
}
