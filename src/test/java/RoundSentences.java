/** What the document says of rounds, of settling, of steps and of constants ahead of its promises. */
final class RoundSentences {
    private static final int NONE = Daemonsheet.NONE;
    private static final int STOPPED = Daemonsheet.STOPPED;
    private static final int STARTING = Daemonsheet.STARTING;
    private static final int RUNNING = Daemonsheet.RUNNING;
    private static final int CUT = Daemonsheet.CUT;

    private RoundSentences() {
    }

    // ---- rounds

    @Sentence(promise = 24, ahead = true, says = "In a round first all dirty cells are worked out, "
            + "the lesser depth first, of one depth the lower cell; those that become dirty by that, too.")
    static void p24_theLesserDepthFirst() {
        Daemonsheet x = new Daemonsheet();
        // Against the order of their numbers, and over two ways of two lengths.
        Sheet.set(x, 11, "r0");
        for (int i = 10; i >= 0; i--) {
            Sheet.set(x, i, "c11+c" + (i + 1));
        }
        int work = x.work();
        Check.due("all in one round", x.read(0, 1), 1);
        Check.due("each of them once", x.work(), work + 12);
        Check.due("the last one", x.value(0), 12);
        x.hold(11, 0);
        Check.due("what becomes dirty by a held one", x.work(), work + 12 + 11);
        Check.due("the last one then", x.value(0), 0);
    }

    @Sentence(promise = 25, ahead = true, says = "Then services are looked at, by rising numbers, "
            + "with all as it is by then:")
    static void p25_byRisingNumbers() {
        Daemonsheet up = new Daemonsheet();
        Daemonsheet down = new Daemonsheet();
        for (int i = 0; i < 5; i++) {
            up.control(i, 0);
            down.control(i, 0);
        }
        for (int i = 0; i < 4; i++) {
            up.need(i + 1, i, true);
            down.need(i, i + 1, true);
        }
        Check.due("each needs the one ahead of it", up.hold(0, 1), 2);
        Check.due("they run", Sheet.states(up), "22222");
        Check.due("the first one stops", up.control(0, NONE), 2);
        Check.due("none runs", Sheet.states(up), "00000");
        Check.due("each needs the one behind it", down.hold(0, 1), 6);
        Check.due("they run, too", Sheet.states(down), "22222");
        Check.due("the last one stops", down.control(4, NONE), 6);
        Check.due("none runs any more", Sheet.states(down), "00000");
    }

    @Sentence(promise = 25, ahead = true, says = "one that is CUT stays so;")
    static void p25_cutStays() {
        Daemonsheet x = Sheet.cutOne();
        x.hold(2, 1);
        Check.due("wanted", x.state(0), CUT);
        x.control(0, NONE);
        Check.due("not wanted", x.state(0), CUT);
        x.tick(50);
        Check.due("50 ticks behind", x.state(0), CUT);
        x.need(1, 0, true);
        x.control(1, 2);
        Check.due("it does not run for others", x.state(1), STOPPED);
    }

    @Sentence(promise = 25, ahead = true, says = "another one that is not wanted is STOPPED;")
    static void p25_notWantedIsStopped() {
        Daemonsheet x = Sheet.wanted(1, 1);
        Check.due("STARTING", x.state(0), STARTING);
        x.hold(0, 0);
        Check.due("not wanted while it starts", x.state(0), STOPPED);
        x.hold(0, 1);
        x.tick(1);
        Check.due("RUNNING", x.state(0), RUNNING);
        x.hold(0, 0);
        Check.due("not wanted while it runs", x.state(0), STOPPED);
        x.tick(1);
        Check.due("it stays so", x.state(0), STOPPED);
    }

    @Sentence(promise = 25, ahead = true, says = "one that is wanted, and was STOPPED, stays so if "
            + "the cell that controls it is stale,")
    static void p25_staleStaysStopped() {
        for (int delay = 0; delay <= 1; delay++) {
            Daemonsheet x = new Daemonsheet();
            Sheet.set(x, 1, "r0+1");
            Sheet.set(x, 0, "c1");
            x.demand(0, 3, delay);
            Check.due("rounds", x.control(0, 0), 1);
            Check.due("over another cell", x.state(0), STOPPED);
            x.hold(1, 1);
            Check.due("that is held", x.state(0), delay == 0 ? RUNNING : STARTING);
            x.release(1);
            Check.due("what was not STOPPED goes on", x.state(0), delay == 0 ? RUNNING : STARTING);
            x.tick(1);
            Check.due("and runs", x.state(0), RUNNING);
        }
        Daemonsheet y = Sheet.wanted(3, 0);
        Sheet.set(y, 1, "r0+2");
        y.control(0, NONE);
        y.limit(0, 1);
        y.control(0, 0);
        Check.due("a stale cell that only limits", y.state(0), RUNNING);
        Check.due("its load", y.load(0), 2);
    }

    @Sentence(promise = 25, ahead = true,
            says = "otherwise it is RUNNING if its delay is 0, else STARTING;")
    static void p25_runningOrStarting() {
        Check.due("a delay of 0", Sheet.wanted(3, 0).state(0), RUNNING);
        Check.due("a delay of 1", Sheet.wanted(3, 1).state(0), STARTING);
        Check.due("a delay of 10", Sheet.wanted(3, 10).state(0), STARTING);
    }

    @Sentence(promise = 25, ahead = true, says = "one that is wanted and STARTING is RUNNING if as "
            + "many ticks as its delay was when it began to be STARTING have passed since then.")
    static void p25_delays() {
        for (int delay = 1; delay <= 10; delay++) {
            Daemonsheet x = Sheet.wanted(3, delay);
            if (delay > 1) {
                x.tick(delay - 1);
            }
            Check.due("one tick too early", x.state(0), STARTING);
            Check.due("rounds of the last tick", x.tick(1), 2);
            Check.due("in the last tick", x.state(0), RUNNING);
        }
        Daemonsheet y = Sheet.wanted(3, 4);
        y.tick(1);
        y.demand(0, 3, 0);
        Check.due("a delay told later", y.state(0), STARTING);
        y.demand(0, 3, 10);
        y.tick(2);
        Check.due("3 of 4", y.state(0), STARTING);
        y.tick(1);
        Check.due("4 of 4", y.state(0), RUNNING);
        y.hold(0, 0);
        y.hold(0, 1);
        y.tick(9);
        Check.due("9 of 10", y.state(0), STARTING);
        y.hold(0, 0);
        y.hold(0, 1);
        y.tick(9);
        Check.due("begun anew, 9 of 10", y.state(0), STARTING);
        y.tick(1);
        Check.due("begun anew, 10 of 10", y.state(0), RUNNING);
    }

    @Sentence(promise = 26, ahead = true, says = "Then its load and the load that it tells are found.")
    static void p26_loadsInTheSameRound() {
        Daemonsheet x = new Daemonsheet();
        x.hold(0, 1);
        x.demand(0, 3, 0);
        Check.due("a start with a load: one round, and a quiet one", x.control(0, 0), 2);
        Check.due("load", x.load(0), 3);
        Check.due("told", x.told(0), 3);
        Check.due("a stop: one round, and a quiet one", x.control(0, NONE), 2);
        Check.due("load then", x.load(0), 0);
        Check.due("told then", x.told(0), 0);
    }

    // ---- settling

    @Sentence(promise = 15, ahead = true, says = "Settling. Behind each step, and each tick that "
            + "passes, there are rounds, up to the first one in which no state, load or told load of "
            + "a service changes.")
    static void p15_upToAQuietRound() {
        Daemonsheet x = new Daemonsheet();
        Check.due("nothing changes", x.hold(0, 1), 1);
        Check.due("only a state changes", x.control(0, 0), 2);
        Check.due("load and told load change", x.demand(0, 3, 0), 2);
        Check.due("only the told load changes", x.lie(0, 5), 2);
        Check.due("only the load changes", x.demand(0, 4, 0), 2);
        Check.due("neither changes", x.demand(0, 4, 10), 1);
        Check.due("a cell changes", Sheet.set(x, 1, "l0"), 1);
        Check.due("50 quiet ticks", x.tick(50), 50);
        x.control(0, NONE);
        x.control(0, 0);
        Check.due("a tick of 50 with a start", x.tick(50), 51);
    }

    /** Service 0 goes up to its demand by ones; service 1 starts and stops while service 0 runs. */
    private static Daemonsheet risesBesideOne(int demand) {
        Daemonsheet x = new Daemonsheet();
        x.hold(0, 1);
        Sheet.set(x, 1, "l0+1");
        Sheet.set(x, 2, "1-l1");
        x.demand(0, demand, 0);
        x.limit(0, 1);
        x.demand(1, 1, 0);
        x.need(1, 0, true);
        x.control(1, 2);
        return x;
    }

    @Sentence(promise = 25, ahead = true, says = "If there were 40 without such a one,")
    static void p25_fortyRounds() {
        Daemonsheet x = new Daemonsheet();
        x.hold(0, 1);
        Sheet.set(x, 1, "l0+1");
        x.limit(0, 1);
        x.demand(0, 39, 0);
        Check.due("39 and a quiet one", x.control(0, 0), 40);
        Check.due("it runs", x.state(0), RUNNING);
        Check.due("its load", x.load(0), 39);
        x.control(0, NONE);
        x.demand(0, 40, 0);
        Check.due("40, and a quiet one behind the cut", x.control(0, 0), 41);
        Check.due("it is cut", x.state(0), CUT);
    }

    @Sentence(promise = 25, ahead = true,
            says = "the lowest service for which something of these changed in some of the last 12 "
            + "of them is CUT,")
    static void p25_theLowestOfTheLastTwelve() {
        Daemonsheet x = risesBesideOne(28);
        x.control(0, 0);
        Check.due("changed up to the 28th round", Sheet.states(x), "23000");
        Check.due("its load", x.load(0), 28);
        x = risesBesideOne(29);
        x.control(0, 0);
        Check.due("changed up to the 29th round", Sheet.states(x), "30000");
        x = risesBesideOne(35);
        x.control(1, NONE);
        Check.due("changes up to the 35th round of an earlier step", x.control(0, 0), 36);
        Check.due("a step in which another one changes", x.control(1, 2), 41);
        Check.due("the earlier changes are none of this step", Sheet.states(x), "23000");
    }

    @Sentence(promise = 25, ahead = true,
            says = "the lowest service for which something of these changed in some of the last 12 "
            + "of them is CUT,")
    static void p25_aLoadOrAStateAloneIsAChange() {
        Daemonsheet x = new Daemonsheet();
        x.hold(0, 1);
        Sheet.set(x, 1, "1-l4");
        Sheet.set(x, 2, "l4");
        x.demand(4, 1, 0);
        x.demand(1, 5, 0);
        x.limit(1, 2);
        x.lie(1, 3);
        x.control(1, 0);
        Check.due("two that change, and two cuts", x.control(4, 1), 81);
        Check.due("only the load of the lowest changed", Sheet.states(x), "03003");
        Daemonsheet y = new Daemonsheet();
        y.hold(0, 1);
        Sheet.set(y, 1, "1-l4");
        y.demand(4, 1, 0);
        y.need(2, 4, true);
        y.control(2, 0);
        Check.due("another two", y.control(4, 1), 81);
        Check.due("only the state of the lowest changed", Sheet.states(y), "00303");
    }

    @Sentence(promise = 27, ahead = true, says = "its load and the load that it tells are 0 at once "
            + "(cells that read it are dirty if it told another one),")
    static void p27_cutTellsNothingAtOnce() {
        Daemonsheet x = new Daemonsheet();
        x.hold(0, 1);
        Sheet.set(x, 1, "l0+1");
        x.limit(0, 1);
        x.demand(0, 1000, 0);
        int work = x.work();
        x.control(0, 0);
        Check.due("load", x.load(0), 0);
        Check.due("told", x.told(0), 0);
        Check.due("what reads it", x.value(1), 1);
        Check.due("worked out in rounds 2 to 41", x.work(), work + 40);
        Daemonsheet y = new Daemonsheet();
        y.hold(0, 1);
        Sheet.set(y, 1, "1-l4");
        Sheet.set(y, 2, "l2");
        y.demand(4, 1, 0);
        y.need(2, 4, true);
        y.control(2, 0);
        work = y.work();
        Check.due("two cuts", y.control(4, 1), 81);
        Check.due("one that told 0 makes no cell dirty", y.work(), work + 80);
    }

    @Sentence(promise = 25, ahead = true, says = "and rounds begin anew; and so on.")
    static void p25_andSoOn() {
        for (int services = 1; services <= 5; services++) {
            Daemonsheet x = new Daemonsheet();
            for (int i = 0; i < services; i++) {
                Sheet.set(x, i + 1, "c0-l" + i);
                x.demand(i, 1, 0);
                x.control(i, i + 1);
            }
            Check.due("rounds of " + services, x.hold(0, 1), 40 * services + 1);
            Check.due("states", Sheet.states(x), "33333".substring(0, services)
                    + "00000".substring(services));
            Check.due("starts of the last one", x.starts(services - 1), 20 * services);
        }
        Daemonsheet y = risesBesideOne(40);
        Sheet.set(y, 2, "i(c3,1-l1,0)");
        y.need(1, 0, false);
        y.control(0, 0);
        Check.due("the first one is cut", Sheet.states(y), "30000");
        y.mend(0);
        Check.due("and again", Sheet.states(y), "30000");
        y.hold(3, 1);
        Check.due("the second one alone, in rounds of its own", Sheet.states(y), "33000");
    }

    // ---- steps

    @Sentence(promise = 17, ahead = true, says = "Steps are kept in their order, up to 40.")
    static void p17_fortySteps() {
        Daemonsheet x = new Daemonsheet();
        for (int i = 1; i <= 40; i++) {
            x.hold(0, i);
            Check.due("steps", x.steps(), i);
        }
        Check.refused("a 41st one", () -> x.hold(0, 41));
        Check.due("steps then", x.steps(), 40);
        Check.due("value", x.value(0), 40);
        Check.due("valueAnew", x.valueAnew(0), 40);
        for (int i = 39; i >= 1; i--) {
            x.undo();
            Check.due("the order", x.value(0), i);
        }
    }

    @Sentence(promise = 16, ahead = true, says = "To take the latest one back makes all but the text "
            + "as if the steps ahead of it had been told anew, one by one, to a table as it is at first:")
    static void p16_allButTheText() {
        Sheet.On[] steps = {
            x -> x.hold(1, 1), x -> x.demand(0, 4, 1), x -> x.control(0, 1), x -> x.formula(2),
            x -> x.read(0, 3), x -> x.limit(0, 2), x -> x.need(1, 4, true), x -> x.lie(0, 2),
            x -> x.tick(3), x -> x.release(1), x -> x.control(0, NONE),
        };
        for (int count = 0; count < steps.length; count++) {
            Daemonsheet x = new Daemonsheet();
            Daemonsheet twin = new Daemonsheet();
            Sheet.put(x, "r0+l0+c1");
            Sheet.put(twin, "r0+l0+c1");
            for (int i = 0; i < count; i++) {
                steps[i].make(x);
                steps[i].make(twin);
            }
            steps[count].make(x);
            Sheet.put(x, "r0+");
            Check.due("undo of step " + count, x.undo(), count);
            Check.due("the text of its own", x.wipe(), 3);
            twin.wipe();
            Check.due("all that is asked", Sheet.all(x), Sheet.all(twin));
            // What was told of services shows when they start.
            for (Daemonsheet one : new Daemonsheet[] {x, twin}) {
                one.hold(0, 1);
                one.hold(1, 1);
                one.control(0, 1);
                one.control(1, 1);
            }
            Check.due("states later", Sheet.states(x), Sheet.states(twin));
            Check.due("ticks later", x.tick(2), twin.tick(2));
            Check.due("all that is asked later", Sheet.all(x), Sheet.all(twin));
        }
    }

    @Sentence(promise = 16, ahead = true, says = "steps that are taken back,")
    static void p16_takenBackToTheFirst() {
        Daemonsheet x = Sheet.busy();
        x.wipe();
        while (x.steps() > 0) {
            x.undo();
        }
        Check.due("all that is asked", Sheet.all(x), Sheet.all(new Daemonsheet()));
        Check.due("a step then", x.tick(1), 1);
    }

    @Sentence(promise = 16, ahead = true,
            says = "the ticks, what was cut, and what was counted, too.")
    static void p16_ticksCutsAndCounts() {
        Daemonsheet x = new Daemonsheet();
        Sheet.set(x, 1, "1-l0");
        x.demand(0, 1, 0);
        x.tick(7);
        x.tick(50);
        x.undo();
        Check.due("ticks", x.now(), 7);
        int work = x.work();
        x.control(0, 1);
        Check.due("cut", x.state(0), CUT);
        Check.due("starts", x.starts(0), 20);
        x.undo();
        Check.due("not cut", x.state(0), STOPPED);
        Check.due("starts taken back", x.starts(0), 0);
        Check.due("work taken back", x.work(), work);
        x.control(0, 1);
        x.mend(0);
        x.undo();
        Check.due("cut as before", x.state(0), CUT);
        Check.due("starts as before", x.starts(0), 20);
    }

    @Sentence(promise = 17, ahead = true, says = "A step that throws is not kept.")
    static void p17_whatThrowsIsNotKept() {
        Daemonsheet x = new Daemonsheet();
        x.hold(0, 1);
        x.hold(0, 2);
        Check.illegal("hold", () -> x.hold(0, 1001));
        Check.outside("control", () -> x.control(0, 12));
        Check.refused("mend", () -> x.mend(0));
        Check.illegal("formula", () -> x.formula(0));
        Check.due("steps", x.steps(), 2);
        Check.due("undo", x.undo(), 1);
        Check.due("value", x.value(0), 1);
    }

    // ---- constants

    @Sentence(promise = 9, ahead = true, says = "`NONE = -1`: None.")
    static void p09_none() {
        Check.due("NONE", NONE, -1);
        Daemonsheet x = Sheet.wanted(3, 0);
        x.control(0, -1);
        Check.due("-1 controls nothing", x.state(0), STOPPED);
        Check.due("-1 is no fault", Sheet.full().fault(), -1);
    }

    @Sentence(promise = 25, ahead = true,
            says = "`STOPPED = 0, STARTING = 1, RUNNING = 2, CUT = 3`: States of a service.")
    static void p25_states() {
        Check.due("STOPPED", STOPPED, 0);
        Check.due("STARTING", STARTING, 1);
        Check.due("RUNNING", RUNNING, 2);
        Check.due("CUT", CUT, 3);
    }
}
