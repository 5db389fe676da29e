/** Promises 15 to 18: ticks, and steps that are taken back. */
final class TimeSentences {
    private static final int NONE = Daemonsheet.NONE;
    private static final int STOPPED = Daemonsheet.STOPPED;
    private static final int RUNNING = Daemonsheet.RUNNING;
    private static final int CUT = Daemonsheet.CUT;

    private static final String CHANGES_NOTHING = "A call that throws an exception changes nothing;";
    private static final String FIRST_NAMED = "if several exceptions apply, the one that its throws "
            + "clause names first is thrown.";

    private TimeSentences() {
    }

    private static Daemonsheet atTheEnd() {
        Daemonsheet x = new Daemonsheet();
        for (int i = 0; i < 40; i++) {
            x.tick(50);
        }
        return x;
    }

    // ---- promise 15

    @Sentence(promise = 15, says = "Lets ticks pass: all of them are one step.")
    static void p15_oneStep() {
        Daemonsheet x = new Daemonsheet();
        x.tick(1);
        Check.due("steps", x.steps(), 1);
        x.tick(50);
        Check.due("steps", x.steps(), 2);
        Check.due("now", x.now(), 51);
        x.undo();
        Check.due("all 50 are taken back", x.now(), 1);
    }

    @Sentence(promise = 15, says = "- `ticks`: 1 to 50")
    static void p15_ticks() {
        for (int ticks = 1; ticks <= 50; ticks++) {
            Daemonsheet x = new Daemonsheet();
            x.tick(ticks);
            Check.due("now behind " + ticks, x.now(), ticks);
        }
    }

    @Sentence(promise = 15,
            says = "Returns the rounds behind each of them, together; there are no others.")
    static void p15_rounds() {
        for (int ticks = 1; ticks <= 50; ticks++) {
            Check.due("quiet ones", new Daemonsheet().tick(ticks), ticks);
        }
        Daemonsheet x = Sheet.wanted(3, 2);
        x.demand(1, 3, 4);
        x.control(1, 0);
        x.demand(2, 3, 1);
        x.need(2, 0, true);
        x.control(2, 0);
        Check.due("none starts in the first tick", x.tick(1), 1);
        Check.due("one in the second, one in the third, one in the fourth", x.tick(3), 6);
        Check.due("none any more", x.tick(3), 3);
        Daemonsheet y = new Daemonsheet();
        Sheet.set(y, 0, "1-l0");
        y.demand(0, 3, 0);
        y.need(0, 1, true);
        y.control(0, 0);
        y.hold(1, 1);
        y.demand(1, 0, 5);
        y.control(1, 1);
        Check.due("a cut in one of the ticks", y.tick(10), 10 + 40);
        Check.due("it is cut", y.state(0), CUT);
    }

    @Sentence(promise = 15, says = "Throws `IllegalArgumentException` if ticks is out of range")
    static void p15_outOfRange() {
        Daemonsheet x = new Daemonsheet();
        Sheet.outOfRange("tick", 1, 50, x::tick);
        Check.illegal("tick -1", () -> x.tick(-1));
        Check.due("now", x.now(), 0);
    }

    @Sentence(promise = 15,
            says = "Throws `IllegalStateException` if now would be behind 2000, or as told")
    static void p15_behindTheEndOrFortyKept() {
        Daemonsheet x = atTheEnd();
        Check.due("now", x.now(), 2000);
        Check.refused("one more", () -> x.tick(1));
        x.undo();
        Check.due("50 up to the end", x.tick(50), 50);
        x.undo();
        x.undo();
        x.tick(49);
        Check.due("50 up to the last but one", x.tick(50), 50);
        Check.due("now then", x.now(), 1999);
        // No way with fewer than 40 steps goes up to 2000: what is behind it is a 41st step, too.
        Check.refused("one up to the end, as the 41st step", () -> x.tick(1));
        Sheet.refusedWith40Kept(y -> y.tick(1));
        Sheet.refusedWith40Kept(y -> y.tick(50));
    }

    @Sentence(promise = 15, ahead = true, says = CHANGES_NOTHING)
    static void p15_changesNothing() {
        Sheet.changesNothing(Sheet.busy(), Sheet.busy(), x -> x.tick(0), x -> x.tick(51),
                x -> x.tick(-1));
        Sheet.changesNothing(Sheet.full(), Sheet.full(), x -> x.tick(1));
        Sheet.changesNothing(atTheEnd(), atTheEnd(), x -> x.tick(1), x -> x.tick(50));
    }

    @Sentence(promise = 15, ahead = true, says = FIRST_NAMED)
    static void p15_rangeThenState() {
        Daemonsheet x = atTheEnd();
        Check.refused("50", () -> x.tick(50));
        Check.illegal("51", () -> x.tick(51));
        Check.illegal("0", () -> x.tick(0));
        Check.illegal("the greatest", () -> x.tick(Integer.MAX_VALUE));
        Check.illegal("0 with 40 steps kept", () -> Sheet.full().tick(0));
    }

    // ---- promise 16

    @Sentence(promise = 16, says = "Takes the latest step back, which is no step itself.")
    static void p16_noStepItself() {
        Daemonsheet x = new Daemonsheet();
        x.hold(0, 1);
        x.hold(0, 2);
        x.hold(0, 3);
        x.undo();
        x.undo();
        Check.due("the second undo takes the second step back", x.value(0), 1);
        Check.due("steps", x.steps(), 1);
        x.hold(0, 4);
        x.undo();
        Check.due("a step told later", x.value(0), 1);
        Check.due("valueAnew", x.valueAnew(0), 1);
    }

    @Sentence(promise = 16, ahead = true, says = "each is IllegalState, too, if 40 are kept,")
    static void p16_eachStepIsRefusedAndUndoIsNone() {
        Daemonsheet x = Sheet.full();
        Sheet.On[] steps = {
            y -> y.formula(0), y -> y.hold(0, 1), y -> y.release(3), y -> y.read(0, 1),
            y -> y.control(1, 1), y -> y.limit(1, 1), y -> y.demand(1, 1, 1),
            y -> y.need(1, 2, true), y -> y.lie(1, 1), y -> y.mend(0), y -> y.tick(1),
        };
        for (int i = 0; i < steps.length; i++) {
            Sheet.On step = steps[i];
            Check.refused("step " + i, () -> step.make(x));
        }
        Check.due("undo is no step itself", x.undo(), 39);
        for (Sheet.On step : steps) {
            step.make(x);
            Check.due("the 40th step", x.steps(), 40);
            Check.due("undo of it", x.undo(), 39);
        }
    }

    @Sentence(promise = 16, says = "Returns how many steps are kept then.")
    static void p16_howManyAreKept() {
        Daemonsheet x = Sheet.full();
        for (int i = 39; i >= 0; i--) {
            Check.due("undo", x.undo(), i);
            Check.due("steps", x.steps(), i);
        }
    }

    @Sentence(promise = 16, says = "Throws `IllegalStateException` if none is")
    static void p16_noneIsKept() {
        Daemonsheet x = new Daemonsheet();
        Check.refused("a new table", () -> x.undo());
        Sheet.put(x, "1");
        Check.refused("letters are no steps", () -> x.undo());
        Check.illegal("a step that throws", () -> x.tick(0));
        Check.refused("what throws is no step", () -> x.undo());
        x.tick(1);
        Check.due("one", x.undo(), 0);
        Check.refused("all are taken back", () -> x.undo());
        Check.due("steps", x.steps(), 0);
    }

    @Sentence(promise = 16, ahead = true, says = CHANGES_NOTHING)
    static void p16_changesNothing() {
        Daemonsheet x = new Daemonsheet();
        Sheet.put(x, "r0+");
        Check.refused("undo", () -> x.undo());
        Check.refused("undo again", () -> x.undo());
        Check.due("letters", x.wipe(), 3);
        Check.due("all that is asked", Sheet.all(x), Sheet.all(new Daemonsheet()));
        Check.due("a step then", x.hold(0, 1), 1);
        Check.due("steps", x.steps(), 1);
    }

    // ---- promise 17

    @Sentence(promise = 17, says = "Returns how many steps are kept.")
    static void p17_steps() {
        Daemonsheet x = new Daemonsheet();
        Check.due("at first", x.steps(), 0);
        Sheet.put(x, "1");
        x.fault();
        x.trial(0);
        x.valueAnew(0);
        Check.due("behind what is no step", x.steps(), 0);
        x.formula(0);
        x.hold(0, 1);
        x.release(0);
        x.read(0, 1);
        x.control(0, 1);
        x.limit(0, 1);
        x.demand(0, 1, 1);
        x.need(0, 1, true);
        x.lie(0, 1);
        x.tick(7);
        Check.due("behind one of each", x.steps(), 10);
        Daemonsheet y = Sheet.cutOne();
        y.mend(0);
        Check.due("behind mend", y.steps(), 4);
        y.undo();
        Check.due("behind undo", y.steps(), 3);
        y.need(0, 1, false);
        Check.due("behind a step that changes nothing", y.steps(), 4);
        Check.due("the most", Sheet.full().steps(), 40);
    }

    // ---- promise 18

    @Sentence(promise = 18, says = "Returns now.")
    static void p18_now() {
        Daemonsheet x = new Daemonsheet();
        Check.due("at first", x.now(), 0);
        x.hold(0, 1);
        Check.due("a step is no tick", x.now(), 0);
        x.tick(1);
        x.tick(23);
        Check.due("ticks", x.now(), 24);
        x.trial(0);
        x.valueAnew(0);
        Check.due("behind questions", x.now(), 24);
        x.undo();
        Check.due("behind undo", x.now(), 1);
        Check.due("the last one", atTheEnd().now(), 2000);
    }

    // ---- what is said ahead

    @Sentence(promise = 15, ahead = true, says = "and returns how many rounds there were by it.")
    static void p15_countsEachRound() {
        Daemonsheet x = new Daemonsheet();
        Sheet.set(x, 1, "1-l0");
        x.demand(0, 1, 10);
        x.control(0, 1);
        Check.due("9 quiet ticks", x.tick(9), 9);
        Check.due("a start, a stop, and a start anew", x.tick(1), 4);
        Check.due("states", x.state(0), Daemonsheet.STARTING);
        x.hold(1, 1);
        x.tick(10);
        Check.due("it runs", x.state(0), RUNNING);
        x.control(0, NONE);
        Check.due("it is STOPPED", x.state(0), STOPPED);
    }
}
