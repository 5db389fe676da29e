/** Promise 29: a day that is run again. */
final class TrialSentences {
    private static final int NONE = Daemonsheet.NONE;

    private TrialSentences() {
    }

    /** Service 0 runs while reading 0 is above 0. */
    private static Daemonsheet byReading() {
        Daemonsheet x = new Daemonsheet();
        Sheet.set(x, 0, "r0");
        x.demand(0, 1, 0);
        x.control(0, 0);
        return x;
    }

    @Sentence(promise = 29, says = "Returns how many times a service would become RUNNING in the "
            + "last 24 ticks,")
    static void p29_theLast24Ticks() {
        Daemonsheet x = byReading();
        x.read(0, 1);
        x.tick(23);
        Check.due("told in the first of 24 ticks", x.trial(0), 1);
        x.tick(1);
        Check.due("told a tick ahead of them", x.trial(0), 0);
        Check.due("starts", x.starts(0), 1);
        x.read(0, 0);
        x.read(0, 1);
        Check.due("told in the last of them", x.trial(0), 1);
        Check.due("starts then", x.starts(0), 2);
        x.tick(23);
        Check.due("23 ticks later", x.trial(0), 1);
        x.tick(1);
        Check.due("24 ticks later", x.trial(0), 0);
    }

    @Sentence(promise = 29, says = "if all that is told now had been told ahead of them:")
    static void p29_allThatIsToldNow() {
        Daemonsheet x = byReading();
        x.read(0, 1);
        x.tick(1);
        Check.due("as it was", x.trial(0), 1);
        Sheet.set(x, 0, "r0>1");
        Check.due("by a formula told since", x.trial(0), 0);
        Sheet.set(x, 0, "r0<2");
        Check.due("by another one", x.trial(0), 1);
        x.control(0, NONE);
        Check.due("by no control", x.trial(0), 0);
        x.undo();
        Check.due("what was told since is taken back", x.trial(0), 1);
        Check.due("starts are others", x.starts(0), 2);
    }

    @Sentence(promise = 29, says = "a table as it is at first, in the tick 23 ahead of now, or 0,")
    static void p29_from23TicksAheadOrFrom0() {
        for (int now = 0; now <= 30; now++) {
            Daemonsheet x = Sheet.wanted(1, 10);
            for (int i = 0; i < now; i++) {
                x.tick(1);
            }
            Check.due("a delay of 10 from the first tick, asked in " + now, x.trial(0),
                    now < 10 ? 0 : 1);
        }
        for (int now = 20; now <= 26; now++) {
            Daemonsheet x = byReading();
            x.read(0, 1);
            x.tick(1);
            x.read(0, 0);
            x.tick(1);
            x.read(0, 1);
            x.tick(now - 2);
            Check.due("told in 0, 1 and 2, asked in " + now, x.trial(0),
                    now <= 23 ? 2 : now <= 25 ? 1 : 0);
        }
        Daemonsheet y = Sheet.cutOne();
        y.hold(2, 1);
        Check.due("what is CUT now is not at first", y.trial(0), 1);
        Daemonsheet z = Sheet.wanted(1, 0);
        Sheet.set(z, 1, "r0+1");
        z.control(0, 1);
        z.tick(30);
        Check.due("what runs now does not at first", z.trial(0), 0);
        Check.due("it runs now", z.state(0), Daemonsheet.RUNNING);
        Daemonsheet w = new Daemonsheet();
        w.read(0, 5);
        Sheet.set(w, 0, "r0");
        w.limit(1, 0);
        w.demand(1, 9, 0);
        Sheet.set(w, 1, "1-l1");
        w.control(1, 1);
        w.tick(24);
        Check.due("readings are 0 at first", w.trial(1), 1);
    }

    @Sentence(promise = 29, says = "gets all formulas, holds with their values, and what controls, "
            + "limits, needs, demands, delays and lies there are now, all at once,")
    static void p29_allAtOnce() {
        Daemonsheet x = new Daemonsheet();
        Sheet.set(x, 0, "1-l0");
        x.demand(0, 4, 0);
        x.control(0, 0);
        Check.due("formula, demand and control", x.trial(0), 20);
        x.lie(0, 0);
        Check.due("a lie", x.trial(0), 1);
        x.lie(0, NONE);
        x.limit(0, 5);
        Check.due("a limit", x.trial(0), 1);
        x.hold(5, 1);
        Check.due("a limit that is held", x.trial(0), 20);
        x.hold(5, -1);
        Check.due("held at another value", x.trial(0), 1);
        x.hold(0, 1);
        x.hold(5, 9);
        Check.due("a control that is held", x.trial(0), 1);
        x.need(0, 1, true);
        Check.due("a need", x.trial(0), 0);
        x.control(1, 0);
        Check.due("a need that runs", x.trial(0), 1);
        x.demand(1, 0, 2);
        x.tick(1);
        Check.due("a need with a delay", x.trial(0), 0);
        x.tick(1);
        Check.due("a need whose delay ends", x.trial(0), 1);
        x.hold(0, 0);
        Check.due("a control that is held at 0", x.trial(0), 0);
        Daemonsheet y = Sheet.wanted(1, 0);
        Sheet.set(y, 1, "1-c0");
        y.control(1, 1);
        Check.due("not one behind the other", y.trial(1), 0);
    }

    @Sentence(promise = 29, says = "every cell that is not held being dirty, and is settled;")
    static void p29_everyCellIsDirty() {
        Daemonsheet x = new Daemonsheet();
        Sheet.set(x, 3, "1");
        Sheet.set(x, 1, "c3+1");
        Sheet.set(x, 2, "c1=2");
        Sheet.set(x, 0, "c2=0");
        x.control(0, 2);
        x.control(1, 0);
        Check.due("worked out ahead of the services", x.trial(0), 1);
        Check.due("none sees a value as at first", x.trial(1), 0);
        Sheet.set(x, 0, "9");
        x.hold(0, 0);
        Check.due("one that is held is not worked out", x.trial(1), 0);
        Daemonsheet y = Sheet.wanted(1, 0);
        Sheet.set(y, 1, "1-l0");
        y.control(1, 1);
        Check.due("it is settled", y.trial(1), 1);
        y.need(1, 0, true);
        Check.due("in rounds, too", y.trial(1), 1);
    }

    @Sentence(promise = 29, says = "then, for each tick up to now, the readings that were told in "
            + "it by steps that are kept are told, in their order, and settled one by one,")
    static void p29_readingsOfEachTick() {
        Daemonsheet x = byReading();
        x.read(0, 1);
        x.read(0, 0);
        x.read(0, 2);
        x.read(0, -1);
        x.read(0, 3);
        Check.due("three starts in one tick", x.trial(0), 3);
        x.tick(5);
        x.read(0, 0);
        x.read(0, 1);
        Check.due("one more in another tick", x.trial(0), 4);
        x.undo();
        Check.due("one that is taken back", x.trial(0), 3);
        Daemonsheet y = byReading();
        Sheet.set(y, 0, "r0*r1");
        y.read(0, 1);
        y.tick(10);
        y.read(1, 1);
        Check.due("one 10 ticks behind the other", y.trial(0), 1);
        y.undo();
        y.tick(1);
        y.read(1, 1);
        Check.due("one 11 ticks behind the other", y.trial(0), 0);
        y.read(0, 1);
        Check.due("both in one tick", y.trial(0), 1);
        Daemonsheet z = byReading();
        z.read(0, 1);
        z.control(0, NONE);
        z.read(0, 0);
        z.control(0, 0);
        Check.due("steps of other kinds are not told in between", z.trial(0), 1);
        Daemonsheet w = new Daemonsheet();
        w.read(0, 1);
        Sheet.set(w, 0, "r0");
        w.control(0, 0);
        Check.due("one that is the first step of all", w.trial(0), 1);
    }

    @Sentence(promise = 29, says = "and, but in the last one, a tick passes.")
    static void p29_noTickBehindTheLast() {
        Daemonsheet x = Sheet.wanted(1, 5);
        x.tick(4);
        Check.due("a tick too early", x.trial(0), 0);
        x.tick(1);
        Check.due("in the last tick", x.trial(0), 1);
        Daemonsheet y = byReading();
        y.demand(0, 1, 2);
        y.tick(30);
        y.read(0, 1);
        Check.due("told in the last tick", y.trial(0), 0);
        y.tick(1);
        Check.due("a tick behind it", y.trial(0), 0);
        y.tick(1);
        Check.due("two ticks behind it", y.trial(0), 1);
        Daemonsheet z = new Daemonsheet();
        for (int i = 0; i < 38; i++) {
            z.tick(50);
        }
        z.hold(0, 1);
        z.control(0, 0);
        Check.due("in a late tick", z.trial(0), 1);
        z.undo();
        z.undo();
        z.tick(50);
        z.tick(50);
        Check.due("now", z.now(), 2000);
        Check.due("in the last of all", z.trial(0), 0);
        Check.due("now then", z.now(), 2000);
    }

    @Sentence(promise = 29, says = "Those of the first settling count, too.")
    static void p29_theFirstSettlingCounts() {
        Daemonsheet x = Sheet.wanted(1, 0);
        Check.due("in tick 0", x.trial(0), 1);
        x.tick(50);
        Check.due("later", x.trial(0), 1);
        Daemonsheet y = Sheet.cutOne();
        Check.due("up to a cut", y.trial(0), 20);
        Check.due("asked again", y.trial(0), 20);
    }

    @Sentence(promise = 29, says = "- `service`: 0 to 4")
    static void p29_services() {
        Daemonsheet x = new Daemonsheet();
        for (int i = 0; i < 5; i++) {
            Sheet.set(x, i, "r0>" + i);
            x.control(i, i);
        }
        for (int i = 1; i <= 5; i++) {
            x.read(0, i);
            x.read(0, 0);
        }
        for (int i = 0; i < 5; i++) {
            Check.due("service " + i, x.trial(i), 5 - i);
        }
    }

    @Sentence(promise = 29, says = "Throws `IndexOutOfBoundsException` if there is no such service")
    static void p29_noSuchService() {
        Sheet.noSuchService("trial", new Daemonsheet()::trial);
    }

    @Sentence(promise = 29, ahead = true, says = "and a day that is run again.")
    static void p29_changesNothing() {
        Daemonsheet x = Sheet.busy();
        Daemonsheet twin = Sheet.busy();
        for (int i = 0; i < 5; i++) {
            x.trial(i);
        }
        Check.due("all that is asked", Sheet.all(x), Sheet.all(twin));
        Check.due("a step behind it", x.read(0, 1), twin.read(0, 1));
        Check.due("all that is asked then", Sheet.all(x), Sheet.all(twin));
    }
}
