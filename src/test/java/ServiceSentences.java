/** What the document says of services ahead of its promises. */
final class ServiceSentences {
    private static final int NONE = Daemonsheet.NONE;
    private static final int STOPPED = Daemonsheet.STOPPED;
    private static final int STARTING = Daemonsheet.STARTING;
    private static final int RUNNING = Daemonsheet.RUNNING;
    private static final int CUT = Daemonsheet.CUT;

    private ServiceSentences() {
    }

    @Sentence(promise = 25, ahead = true,
            says = "A service is STOPPED at first, STARTING, RUNNING, or CUT.")
    static void p25_fourStates() {
        Daemonsheet x = new Daemonsheet();
        Check.due("at first", Sheet.states(x), "00000");
        x = Sheet.busy();
        Check.due("cut, running, starting and stopped", Sheet.states(x), "32100");
    }

    @Sentence(promise = 25, ahead = true, says = "It has a cell that controls it, or none, as at first;")
    static void p25_controlledByNoneAtFirst() {
        Daemonsheet x = new Daemonsheet();
        for (int i = 0; i < 12; i++) {
            x.hold(i, 1);
        }
        x.demand(3, 2, 0);
        Check.due("no cell controls it", x.state(3), STOPPED);
        x.control(3, 0);
        Check.due("cell 0 controls it", x.state(3), RUNNING);
        x.control(3, NONE);
        Check.due("none does", x.state(3), STOPPED);
    }

    @Sentence(promise = 26, ahead = true, says = "a cell that limits it, or none, as at first;")
    static void p26_limitedByNoneAtFirst() {
        Daemonsheet x = Sheet.wanted(7, 0);
        Check.due("no cell limits it", x.load(0), 7);
        x.limit(0, 0);
        Check.due("cell 0 limits it", x.load(0), 1);
        x.limit(0, NONE);
        Check.due("none does", x.load(0), 7);
    }

    @Sentence(promise = 25, ahead = true,
            says = "a set of other services that it needs, empty at first;")
    static void p25_needsNoneAtFirst() {
        Daemonsheet x = Sheet.wanted(0, 0);
        Check.due("it needs none", x.state(0), RUNNING);
        x.need(0, 4, true);
        x.need(0, 4, true);
        Check.due("it needs one that does not run", x.state(0), STOPPED);
        x.need(0, 4, false);
        Check.due("told twice, it stands in the set once", x.state(0), RUNNING);
        x.need(0, 1, true);
        x.need(0, 2, true);
        x.need(0, 1, false);
        Check.due("another one is left", x.state(0), STOPPED);
        x.control(2, 0);
        Check.due("which runs", x.state(0), RUNNING);
    }

    @Sentence(promise = 26, ahead = true, says = "a demand and a delay in ticks, 0 at first;")
    static void p26_demandAndDelayAtFirst() {
        Daemonsheet x = new Daemonsheet();
        x.hold(0, 1);
        x.control(2, 0);
        Check.due("it starts at once", x.state(2), RUNNING);
        Check.due("its load", x.load(2), 0);
        x.limit(2, 0);
        Check.due("its load with a limit above it", x.load(2), 0);
    }

    @Sentence(promise = 27, ahead = true, says = "and perhaps a lie, which is a load.")
    static void p27_noLieAtFirst() {
        Daemonsheet x = Sheet.wanted(7, 0);
        Check.due("told without a lie", x.told(0), 7);
        x.lie(0, 0);
        Check.due("told with a lie of 0", x.told(0), 0);
        x.lie(0, 1000);
        Check.due("told with the greatest lie", x.told(0), 1000);
        x.lie(0, NONE);
        Check.due("told without a lie again", x.told(0), 7);
    }

    @Sentence(promise = 25, ahead = true, says = "It is wanted if a cell controls it, the value of "
            + "that is above 0, and all services that it needs are RUNNING.")
    static void p25_wanted() {
        Daemonsheet x = new Daemonsheet();
        x.control(0, 0);
        Check.due("by 0", x.state(0), STOPPED);
        x.hold(0, -1);
        Check.due("by less than 0", x.state(0), STOPPED);
        x.hold(0, 1);
        Check.due("by 1", x.state(0), RUNNING);
        x.need(0, 1, true);
        x.need(0, 2, true);
        x.control(1, 0);
        Check.due("one of two that it needs runs", x.state(0), STOPPED);
        x.demand(2, 0, 1);
        x.control(2, 0);
        Check.due("the other one starts", Sheet.states(x), "02100");
        x.tick(1);
        Check.due("both run", Sheet.states(x), "22200");
        x.control(1, NONE);
        Check.due("one of them stops", Sheet.states(x), "00200");
    }

    @Sentence(promise = 25, ahead = true,
            says = "services with needs, limits and delays that cells start and stop,")
    static void p25_startedAndStopped() {
        Daemonsheet x = new Daemonsheet();
        Sheet.set(x, 0, "r0>3");
        x.read(0, 3);
        x.demand(0, 9, 2);
        x.limit(0, 1);
        x.hold(1, 4);
        x.need(1, 0, true);
        x.control(0, 0);
        x.control(1, 1);
        Check.due("its cell is 0", Sheet.states(x), "00000");
        x.read(0, 4);
        Check.due("its cell is 1", Sheet.states(x), "10000");
        x.tick(2);
        Check.due("its delay has passed", Sheet.states(x), "22000");
        Check.due("its load", x.load(0), 4);
        x.read(0, 3);
        Check.due("its cell is 0 again", Sheet.states(x), "00000");
    }

    @Sentence(promise = 26, ahead = true, says = "Its load is its demand if it is RUNNING, but, with "
            + "a cell that limits it, not more than the value of that, and not less than 0; otherwise 0.")
    static void p26_loads() {
        Daemonsheet x = Sheet.wanted(7, 0);
        Check.due("its demand", x.load(0), 7);
        x.limit(0, 1);
        int[] limits = {-1000, -1, 0, 1, 6, 7, 8, 1000};
        int[] loads = {0, 0, 0, 1, 6, 7, 7, 7};
        for (int i = 0; i < limits.length; i++) {
            x.hold(1, limits[i]);
            Check.due("load by a limit of " + limits[i], x.load(0), loads[i]);
            Check.due("it runs by a limit of " + limits[i], x.state(0), RUNNING);
        }
        x.control(0, NONE);
        Check.due("STOPPED", x.load(0), 0);
        Daemonsheet y = Sheet.wanted(7, 1);
        Check.due("it starts", y.state(0), STARTING);
        Check.due("STARTING", y.load(0), 0);
        Daemonsheet z = Sheet.cutOne();
        Check.due("it is cut", z.state(0), CUT);
        Check.due("CUT", z.load(0), 0);
    }

    @Sentence(promise = 27, ahead = true, says = "The load that it tells is its lie, if it has one "
            + "and is RUNNING, otherwise its load.")
    static void p27_lieOrLoad() {
        Daemonsheet x = Sheet.wanted(7, 1);
        x.lie(0, 9);
        Check.due("STARTING", x.told(0), 0);
        x.tick(1);
        Check.due("RUNNING", x.told(0), 9);
        Check.due("its load all the same", x.load(0), 7);
        x.limit(0, 5);
        Check.due("a limit is none for the lie", x.told(0), 9);
        x.lie(0, NONE);
        Check.due("its load by the limit", x.told(0), 0);
        x.lie(0, 0);
        x.limit(0, NONE);
        Check.due("a lie of 0", x.told(0), 0);
        x.lie(0, 9);
        x.control(0, NONE);
        Check.due("STOPPED", x.told(0), 0);
        Daemonsheet y = Sheet.cutOne();
        y.lie(0, 9);
        Check.due("CUT", y.told(0), 0);
    }

    @Sentence(promise = 27, ahead = true, says = "services that lie,")
    static void p27_whatReadsALie() {
        Daemonsheet x = Sheet.wanted(7, 0);
        Sheet.set(x, 1, "l0>8");
        x.control(1, 1);
        Check.due("by its load", x.state(1), STOPPED);
        x.lie(0, 9);
        Check.due("by its lie", x.state(1), RUNNING);
        Check.due("its load", x.load(0), 7);
        x.lie(0, 8);
        Check.due("by another lie", x.state(1), STOPPED);
    }

    @Sentence(promise = 25, ahead = true, says = "stale readings that start nothing,")
    static void p25_staleStartsNothing() {
        Daemonsheet x = new Daemonsheet();
        Sheet.set(x, 0, "r0+1");
        x.demand(0, 3, 0);
        Check.due("never told", x.control(0, 0), 1);
        Check.due("state", x.state(0), STOPPED);
        x.tick(10);
        x.read(0, 0);
        Check.due("told", x.state(0), RUNNING);
        x.tick(11);
        Check.due("stale while it runs", x.state(0), RUNNING);
        x.control(0, NONE);
        x.control(0, 0);
        Check.due("stale when it should start", x.state(0), STOPPED);
        x.undo();
        x.undo();
        x.undo();
        x.tick(10);
        x.control(0, NONE);
        x.control(0, 0);
        Check.due("10 ticks behind", x.state(0), RUNNING);
    }

    @Sentence(promise = 25, ahead = true, says = "loops through services that settle or are cut,")
    static void p25_settleOrCut() {
        Daemonsheet x = Sheet.wanted(39, 0);
        x.control(0, NONE);
        x.limit(0, 1);
        Sheet.set(x, 1, "l0+1");
        Check.due("rounds of one that settles", x.control(0, 0), 40);
        Check.due("it hangs on itself", x.isLoop(0), true);
        Check.due("it runs", x.state(0), RUNNING);
        x.undo();
        x.demand(0, 40, 0);
        Check.due("rounds of one that does not", x.control(0, 0), 41);
        Check.due("it is cut", x.state(0), CUT);
    }
}
