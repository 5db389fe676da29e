/** Promises 19 to 28, and 30: what is asked of cells and services. */
final class QuestionSentences {
    private static final int NONE = Daemonsheet.NONE;
    private static final int STOPPED = Daemonsheet.STOPPED;
    private static final int STARTING = Daemonsheet.STARTING;
    private static final int RUNNING = Daemonsheet.RUNNING;
    private static final int CUT = Daemonsheet.CUT;

    private static final String CELLS = "- `cell`: 0 to 11";
    private static final String SERVICES = "- `service`: 0 to 4";
    private static final String NO_CELL = "Throws `IndexOutOfBoundsException` if there is no such cell";
    private static final String NO_SERVICE =
            "Throws `IndexOutOfBoundsException` if there is no such service";

    private QuestionSentences() {
    }

    /** Cell i reads reading i % 5, and all those cells behind it by way of the next one. */
    private static Daemonsheet chain() {
        Daemonsheet x = new Daemonsheet();
        for (int i = 0; i < 11; i++) {
            Sheet.set(x, i, "r" + i % 5 + "+c" + (i + 1));
        }
        Sheet.set(x, 11, "r1");
        x.read(1, 1);
        return x;
    }

    @Sentence(promise = 19, ahead = true, says = "A call that throws an exception changes nothing;")
    static void p19_wrongQuestionsChangeNothing() {
        Sheet.changesNothing(Sheet.busy(), Sheet.busy(), x -> x.value(12), x -> x.valueAnew(12),
                x -> x.worth(-1), x -> x.depth(12), x -> x.isStale(-1), x -> x.state(5),
                x -> x.load(-1), x -> x.told(5), x -> x.starts(-1), x -> x.trial(5),
                x -> x.isLoop(-1));
    }

    // ---- promise 19

    @Sentence(promise = 19, says = "Returns the value of a cell.")
    static void p19_value() {
        Daemonsheet x = new Daemonsheet();
        Check.due("at first", x.value(0), 0);
        Sheet.set(x, 0, "1000*1000");
        Check.due("the greatest", x.value(0), 1000000);
        Sheet.set(x, 0, "-1000*1000");
        Check.due("the least", x.value(0), -1000000);
        Sheet.set(x, 1, "c0+1");
        Check.due("by another cell", x.value(1), -999999);
        x.hold(0, 5);
        Check.due("held", x.value(0), 5);
        Check.due("by a held one", x.value(1), 6);
    }

    @Sentence(promise = 19, says = CELLS)
    static void p19_cells() {
        Daemonsheet x = chain();
        int[] values = {3, 3, 2, 2, 2, 2, 2, 1, 1, 1, 1, 1};
        for (int i = 0; i < 12; i++) {
            Check.due("cell " + i, x.value(i), values[i]);
        }
    }

    @Sentence(promise = 19, says = NO_CELL)
    static void p19_noSuchCell() {
        Sheet.noSuchCell("value", new Daemonsheet()::value);
    }

    // ---- promise 20

    @Sentence(promise = 20, says = "Returns the same, by telling all steps that are kept anew to a "
            + "table as it is at first.")
    static void p20_valueAnew() {
        Check.due("without a step", new Daemonsheet().valueAnew(0), 0);
        Daemonsheet x = Sheet.busy();
        for (int i = 0; i < 12; i++) {
            Check.due("cell " + i, x.valueAnew(i), x.value(i));
        }
        Check.due("asked again", x.valueAnew(3), 6);
        x.undo();
        x.hold(3, 9);
        Check.due("behind undo and another step", x.valueAnew(3), 9);
        x.undo();
        Check.due("behind undo", x.valueAnew(3), 6);
        Daemonsheet y = Sheet.full();
        Check.due("with 40 steps", y.valueAnew(3), 1);
        y.trial(0);
        Check.due("behind a trial", y.valueAnew(3), 1);
        Check.due("steps", y.steps(), 40);
        Daemonsheet z = Sheet.wanted(1000, 0);
        z.control(0, NONE);
        Sheet.set(z, 1, "l0+1");
        z.limit(0, 1);
        z.control(0, 0);
        Check.due("by a cut", z.valueAnew(1), 1);
        z.mend(0);
        Check.due("by a cut behind a mend", z.valueAnew(1), z.value(1));
    }

    @Sentence(promise = 20, says = CELLS)
    static void p20_cells() {
        Daemonsheet x = chain();
        int[] values = {3, 3, 2, 2, 2, 2, 2, 1, 1, 1, 1, 1};
        for (int i = 0; i < 12; i++) {
            Check.due("cell " + i, x.valueAnew(i), values[i]);
        }
    }

    @Sentence(promise = 20, says = NO_CELL)
    static void p20_noSuchCell() {
        Sheet.noSuchCell("valueAnew", new Daemonsheet()::valueAnew);
    }

    // ---- promise 21

    @Sentence(promise = 21, says = "Returns the value that the formula of a cell has by all as it "
            + "is now, held or not.")
    static void p21_worth() {
        Daemonsheet x = Sheet.wanted(3, 0);
        Sheet.set(x, 1, "r0+l0*2");
        Sheet.set(x, 2, "c1+1");
        x.read(0, 4);
        Check.due("not held", x.worth(1), 10);
        x.hold(1, 0);
        Check.due("held", x.worth(1), 10);
        Check.due("by a held one", x.worth(2), 1);
        x.read(0, 5);
        x.lie(0, 9);
        Check.due("held, by all as it is now", x.worth(1), 23);
        Sheet.set(x, 1, "7");
        Check.due("held, by a formula set since", x.worth(1), 7);
        x.hold(2, -5);
        Check.due("held, by a held one", x.worth(2), 1);
        Check.due("its value", x.value(2), -5);
    }

    @Sentence(promise = 21, says = CELLS)
    static void p21_cells() {
        Daemonsheet x = chain();
        for (int i = 0; i < 12; i++) {
            int worth = x.value(i);
            x.hold(i, 0);
            Check.due("cell " + i, x.worth(i), worth);
            x.undo();
        }
    }

    @Sentence(promise = 21, says = NO_CELL)
    static void p21_noSuchCell() {
        Sheet.noSuchCell("worth", new Daemonsheet()::worth);
    }

    // ---- promise 22

    @Sentence(promise = 22, says = "Returns the depth of a cell.")
    static void p22_depth() {
        Daemonsheet x = new Daemonsheet();
        Check.due("at first", x.depth(0), 0);
        Sheet.set(x, 0, "c1");
        Check.due("one", x.depth(0), 1);
        Sheet.set(x, 1, "c2*c3");
        Check.due("two", x.depth(0), 2);
        x.hold(1, 4);
        Check.due("over a held one", x.depth(0), 2);
        Check.due("a held one", x.depth(1), 1);
        Sheet.set(x, 1, "r1+l1");
        Check.due("one again", x.depth(0), 1);
        x.undo();
        Check.due("two again", x.depth(0), 2);
    }

    @Sentence(promise = 22, says = CELLS)
    static void p22_cells() {
        Daemonsheet x = chain();
        for (int i = 0; i < 12; i++) {
            Check.due("cell " + i, x.depth(i), 11 - i);
        }
    }

    @Sentence(promise = 22, says = NO_CELL)
    static void p22_noSuchCell() {
        Sheet.noSuchCell("depth", new Daemonsheet()::depth);
    }

    // ---- promise 23

    @Sentence(promise = 23, says = "Tells whether a cell is stale.")
    static void p23_isStale() {
        Daemonsheet x = new Daemonsheet();
        Sheet.set(x, 0, "1+l0");
        Check.due("it reads no reading", x.isStale(0), false);
        Sheet.set(x, 0, "1+r0");
        Check.due("it reads one that was never told", x.isStale(0), true);
        x.read(0, 0);
        Check.due("told", x.isStale(0), false);
        x.undo();
        Check.due("taken back", x.isStale(0), true);
        x.hold(0, 1);
        Check.due("held", x.isStale(0), false);
    }

    @Sentence(promise = 23, says = CELLS)
    static void p23_cells() {
        Daemonsheet x = new Daemonsheet();
        Sheet.set(x, 0, "r0");
        Sheet.set(x, 11, "r4");
        for (int i = 0; i < 12; i++) {
            Check.due("cell " + i, x.isStale(i), i == 0 || i == 11);
        }
    }

    @Sentence(promise = 23, says = NO_CELL)
    static void p23_noSuchCell() {
        Sheet.noSuchCell("isStale", new Daemonsheet()::isStale);
    }

    // ---- promise 24

    @Sentence(promise = 24, says = "Returns how many times cells were worked out so far, by the "
            + "steps that are kept.")
    static void p24_work() {
        Daemonsheet x = new Daemonsheet();
        Check.due("at first", x.work(), 0);
        Sheet.set(x, 0, "r0");
        Sheet.set(x, 1, "c0");
        x.read(0, 4);
        Check.due("four times", x.work(), 4);
        x.worth(1);
        x.valueAnew(1);
        x.trial(0);
        Check.due("questions are none", x.work(), 4);
        x.undo();
        Check.due("taken back", x.work(), 2);
        Check.refused("a step that throws", () -> x.mend(0));
        Check.due("behind a step that throws", x.work(), 2);
        x.undo();
        x.undo();
        Check.due("all taken back", x.work(), 0);
        Daemonsheet y = new Daemonsheet();
        Sheet.set(y, 2, "1-l0");
        y.demand(0, 4, 0);
        y.control(0, 2);
        Check.due("in each round up to a cut", y.work(), 41);
    }

    // ---- promise 25

    @Sentence(promise = 25, says = "Returns the state of a service.")
    static void p25_state() {
        Daemonsheet x = new Daemonsheet();
        x.demand(0, 1, 1);
        Check.due("at first", x.state(0), STOPPED);
        Sheet.set(x, 0, "1");
        x.control(0, 0);
        Check.due("it starts", x.state(0), STARTING);
        x.tick(1);
        Check.due("it runs", x.state(0), RUNNING);
        x.demand(0, 1, 0);
        Sheet.set(x, 0, "1-l0");
        Check.due("it is cut", x.state(0), CUT);
        x.undo();
        Check.due("it runs as before", x.state(0), RUNNING);
    }

    @Sentence(promise = 25, says = SERVICES)
    static void p25_eachService() {
        for (int i = 0; i < 5; i++) {
            Daemonsheet x = new Daemonsheet();
            x.hold(0, 1);
            x.control(i, 0);
            Check.due("states", Sheet.states(x), "00000".substring(0, i) + "2"
                    + "00000".substring(i + 1));
        }
    }

    @Sentence(promise = 25, says = "Returns STOPPED to CUT.")
    static void p25_stoppedToCut() {
        Daemonsheet x = Sheet.busy();
        Check.due("CUT", x.state(0), 3);
        Check.due("RUNNING", x.state(1), 2);
        Check.due("STARTING", x.state(2), 1);
        Check.due("STOPPED", x.state(3), 0);
    }

    @Sentence(promise = 25, says = NO_SERVICE)
    static void p25_noSuchService() {
        Sheet.noSuchService("state", new Daemonsheet()::state);
    }

    // ---- promise 26

    @Sentence(promise = 26, says = "Returns the load of a service.")
    static void p26_load() {
        Daemonsheet x = Sheet.wanted(1000, 0);
        Check.due("the greatest", x.load(0), 1000);
        x.lie(0, 5);
        Check.due("with a lie", x.load(0), 1000);
        x.limit(0, 0);
        Check.due("with a limit", x.load(0), 1);
        x.control(0, NONE);
        Check.due("STOPPED", x.load(0), 0);
        x.undo();
        Check.due("taken back", x.load(0), 1);
    }

    @Sentence(promise = 26, says = SERVICES)
    static void p26_eachService() {
        Daemonsheet x = new Daemonsheet();
        x.hold(0, 1);
        for (int i = 0; i < 5; i++) {
            x.demand(i, i + 1, 0);
            x.control(i, 0);
        }
        for (int i = 0; i < 5; i++) {
            Check.due("load of " + i, x.load(i), i + 1);
        }
    }

    @Sentence(promise = 26, says = NO_SERVICE)
    static void p26_noSuchService() {
        Sheet.noSuchService("load", new Daemonsheet()::load);
    }

    // ---- promise 27

    @Sentence(promise = 27, says = "Returns the load that a service tells.")
    static void p27_told() {
        Daemonsheet x = Sheet.wanted(1000, 0);
        Check.due("its load", x.told(0), 1000);
        x.lie(0, 0);
        Check.due("a lie of 0", x.told(0), 0);
        x.lie(0, 5);
        x.limit(0, 0);
        Check.due("a lie above its load", x.told(0), 5);
        x.control(0, NONE);
        Check.due("STOPPED", x.told(0), 0);
        x.undo();
        Check.due("taken back", x.told(0), 5);
    }

    @Sentence(promise = 27, says = SERVICES)
    static void p27_eachService() {
        Daemonsheet x = new Daemonsheet();
        x.hold(0, 1);
        for (int i = 0; i < 5; i++) {
            x.lie(i, i + 1);
            x.control(i, 0);
        }
        for (int i = 0; i < 5; i++) {
            Check.due("told by " + i, x.told(i), i + 1);
        }
    }

    @Sentence(promise = 27, says = NO_SERVICE)
    static void p27_noSuchService() {
        Sheet.noSuchService("told", new Daemonsheet()::told);
    }

    // ---- promise 28

    @Sentence(promise = 28, says = "Returns how many times a service has become RUNNING, by the "
            + "steps that are kept.")
    static void p28_starts() {
        Daemonsheet x = Sheet.wanted(1, 2);
        Check.due("STARTING", x.starts(0), 0);
        x.tick(2);
        Check.due("RUNNING", x.starts(0), 1);
        x.tick(50);
        x.demand(0, 2, 0);
        x.lie(0, 1);
        Check.due("it goes on", x.starts(0), 1);
        x.hold(0, 0);
        Check.due("STOPPED", x.starts(0), 1);
        x.hold(0, 1);
        Check.due("a second time", x.starts(0), 2);
        x.trial(0);
        x.valueAnew(0);
        Check.due("behind questions", x.starts(0), 2);
        x.undo();
        Check.due("taken back", x.starts(0), 1);
        Daemonsheet y = Sheet.cutOne();
        Check.due("up to a cut", y.starts(0), 20);
        y.mend(0);
        Check.due("up to the next one", y.starts(0), 40);
    }

    @Sentence(promise = 28, says = SERVICES)
    static void p28_eachService() {
        Daemonsheet x = new Daemonsheet();
        x.hold(0, 1);
        for (int i = 0; i < 5; i++) {
            for (int j = 0; j < i; j++) {
                x.control(i, 0);
                x.control(i, NONE);
            }
        }
        for (int i = 0; i < 5; i++) {
            Check.due("starts of " + i, x.starts(i), i);
        }
    }

    @Sentence(promise = 28, says = NO_SERVICE)
    static void p28_noSuchService() {
        Sheet.noSuchService("starts", new Daemonsheet()::starts);
    }

    // ---- promise 30

    @Sentence(promise = 30, says = "Tells whether a service hangs on itself: by the services that "
            + "it needs,")
    static void p30_byNeeds() {
        Daemonsheet x = new Daemonsheet();
        Check.due("by nothing", x.isLoop(0), false);
        x.need(0, 1, true);
        Check.due("by one that needs nothing", x.isLoop(0), false);
        x.need(1, 0, true);
        Check.due("by one that needs it", x.isLoop(0), true);
        Check.due("that one, too", x.isLoop(1), true);
        x.need(2, 0, true);
        Check.due("what only needs one of them", x.isLoop(2), false);
        x.need(0, 1, false);
        Check.due("no more", x.isLoop(0), false);
        Check.due("neither", x.isLoop(1), false);
    }

    @Sentence(promise = 30, says = "and those whose loads are read by the cells that control and "
            + "limit it,")
    static void p30_byControlAndLimit() {
        Daemonsheet x = new Daemonsheet();
        Sheet.set(x, 0, "l2");
        Check.due("by a cell that has no part in it", x.isLoop(2), false);
        x.control(2, 0);
        Check.due("by control", x.isLoop(2), true);
        x.control(2, NONE);
        x.limit(2, 0);
        Check.due("by limit", x.isLoop(2), true);
        x.limit(2, NONE);
        Check.due("by neither", x.isLoop(2), false);
        x.control(1, 0);
        Sheet.set(x, 1, "l1");
        x.limit(2, 1);
        Check.due("by control of one and limit of the other", x.isLoop(2), true);
        Check.due("and the other way round", x.isLoop(1), true);
        x.hold(1, 3);
        Check.due("a held cell reads by its formula", x.isLoop(2), true);
        x.lie(1, 3);
        Check.due("a lie is read as well", x.isLoop(2), true);
        Sheet.set(x, 1, "i(1,2,l1)");
        Check.due("a load that is not come to", x.isLoop(2), true);
        Sheet.set(x, 1, "r1");
        Check.due("a reading is no load", x.isLoop(2), false);
    }

    @Sentence(promise = 30, says = "or by cells that these read, and so on;")
    static void p30_overCells() {
        Daemonsheet x = new Daemonsheet();
        for (int i = 0; i < 11; i++) {
            Sheet.set(x, i, "c" + (i + 1));
        }
        Sheet.set(x, 11, "l4");
        x.control(4, 0);
        Check.due("over twelve cells", x.isLoop(4), true);
        x.control(4, NONE);
        x.limit(4, 10);
        Check.due("over two cells", x.isLoop(4), true);
        Sheet.set(x, 11, "l3");
        Check.due("another load", x.isLoop(4), false);
        Sheet.set(x, 5, "l4");
        Check.due("above the cells that are read", x.isLoop(4), false);
        x.limit(4, 5);
        Check.due("in the cell that limits it", x.isLoop(4), true);
    }

    @Sentence(promise = 30, says = "over as many services as there may be.")
    static void p30_overServices() {
        Daemonsheet x = new Daemonsheet();
        x.need(0, 1, true);
        Sheet.set(x, 0, "l2");
        x.control(1, 0);
        Sheet.set(x, 1, "c2");
        Sheet.set(x, 2, "l3");
        x.limit(2, 1);
        x.need(3, 4, true);
        for (int i = 0; i < 5; i++) {
            Check.due("not closed, " + i, x.isLoop(i), false);
        }
        Sheet.set(x, 3, "l0");
        x.control(4, 3);
        for (int i = 0; i < 5; i++) {
            Check.due("over all five, " + i, x.isLoop(i), true);
        }
        Sheet.set(x, 3, "l1");
        Check.due("ahead of a loop", x.isLoop(0), false);
        for (int i = 1; i < 5; i++) {
            Check.due("over four, " + i, x.isLoop(i), true);
        }
        Sheet.set(x, 3, "l4");
        for (int i = 0; i < 5; i++) {
            Check.due("the last one alone, " + i, x.isLoop(i), i == 4);
        }
    }

    @Sentence(promise = 30, says = SERVICES)
    static void p30_eachService() {
        for (int i = 0; i < 5; i++) {
            Daemonsheet x = new Daemonsheet();
            Sheet.set(x, 11, "l" + i);
            x.control(i, 11);
            for (int j = 0; j < 5; j++) {
                Check.due("isLoop of " + j, x.isLoop(j), i == j);
            }
        }
    }

    @Sentence(promise = 30, says = NO_SERVICE)
    static void p30_noSuchService() {
        Sheet.noSuchService("isLoop", new Daemonsheet()::isLoop);
    }
}
