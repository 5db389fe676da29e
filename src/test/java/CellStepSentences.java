/** Promises 5 to 8: formulas, cells that are held, and readings. */
final class CellStepSentences {
    private static final String ROUNDS = "Returns the rounds.";
    private static final String NO_CELL = "Throws `IndexOutOfBoundsException` if there is no such cell";
    private static final String AS_TOLD = "Throws `IllegalStateException` as told";
    private static final String CHANGES_NOTHING = "A call that throws an exception changes nothing;";
    private static final String FIRST_NAMED = "if several exceptions apply, the one that its throws "
            + "clause names first is thrown.";
    private static final String COUNTS = "and returns how many rounds there were by it.";

    private CellStepSentences() {
    }

    // ---- promise 5

    @Sentence(promise = 5, says = "Gives a cell the text as its formula.")
    static void p05_givesTheText() {
        Daemonsheet x = new Daemonsheet();
        Sheet.set(x, 3, "4*5");
        Check.due("value", x.value(3), 20);
        Check.due("another cell", x.value(2), 0);
        Sheet.set(x, 3, "r0-1");
        Check.due("in place of it", x.value(3), -1);
        Sheet.set(x, 3, "1+1+1+1+1+1+1+1+1+1+1+1+1+1+11");
        Check.due("30 letters", x.value(3), 25);
    }

    @Sentence(promise = 5, says = "The text stays.")
    static void p05_theTextStays() {
        Daemonsheet x = new Daemonsheet();
        Sheet.set(x, 0, "12");
        Check.due("fault", x.fault(), Daemonsheet.NONE);
        x.formula(1);
        Check.due("another cell by the same text", x.value(1), 12);
        Check.due("a letter behind it", x.type('3'), 3);
        Check.due("what is typed later", x.value(1), 12);
        x.formula(1);
        Check.due("is told later", x.value(1), 123);
        Check.due("letters", x.wipe(), 3);
    }

    @Sentence(promise = 5, says = "- `cell`: 0 to 11")
    static void p05_cells() {
        for (int i = 0; i < 12; i++) {
            Daemonsheet x = new Daemonsheet();
            Sheet.set(x, i, "6");
            Check.due("cell " + i, x.value(i), 6);
        }
    }

    @Sentence(promise = 5, says = ROUNDS)
    static void p05_rounds() {
        Daemonsheet x = new Daemonsheet();
        Check.due("nothing changes", Sheet.set(x, 0, "0"), 1);
        x.control(0, 0);
        Check.due("a service starts", Sheet.set(x, 0, "1"), 2);
        x.demand(0, 2, 0);
        Check.due("a service is cut", Sheet.set(x, 0, "1-l0"), 41);
    }

    @Sentence(promise = 5, says = NO_CELL)
    static void p05_noSuchCell() {
        Daemonsheet x = new Daemonsheet();
        Sheet.put(x, "1");
        Sheet.noSuchCell("formula", x::formula);
    }

    @Sentence(promise = 5, says = "Throws `IllegalArgumentException` if the text is no formula")
    static void p05_noFormula() {
        Daemonsheet x = new Daemonsheet();
        for (String text : new String[] {"", "1+", "c12", "(1", "1)", "+", "12345", "1<2<3"}) {
            Sheet.put(x, text);
            Check.illegal("formula of " + text, () -> x.formula(0));
        }
        Check.due("steps", x.steps(), 0);
    }

    @Sentence(promise = 5, says = "Throws `IllegalStateException` if the cell would hang on itself, "
            + "or as told")
    static void p05_hangsOnItselfOrFortyKept() {
        Daemonsheet x = new Daemonsheet();
        Sheet.put(x, "c11");
        Check.refused("itself", () -> x.formula(11));
        Sheet.set(x, 11, "c0");
        Sheet.put(x, "r0+c11");
        Check.refused("over one", () -> x.formula(0));
        Sheet.set(x, 11, "1");
        Sheet.put(x, "c11");
        Check.due("it does no more", x.formula(0), 1);
        Sheet.refusedWith40Kept(y -> y.formula(0));
    }

    @Sentence(promise = 5, ahead = true, says = CHANGES_NOTHING)
    static void p05_changesNothing() {
        Sheet.changesNothing(Sheet.busy(), Sheet.busy(), x -> x.formula(0), x -> x.formula(12));
        Daemonsheet x = Sheet.busy();
        Daemonsheet twin = Sheet.busy();
        x.type('1');
        twin.type('1');
        Sheet.changesNothing(x, twin, y -> y.formula(3), y -> y.formula(-1));
        Sheet.changesNothing(Sheet.full(), Sheet.full(), y -> y.formula(0), y -> y.formula(3));
    }

    @Sentence(promise = 5, ahead = true, says = FIRST_NAMED)
    static void p05_cellThenTextThenState() {
        Daemonsheet x = Sheet.full();
        Check.refused("a formula", () -> x.formula(0));
        Check.outside("a formula for no cell", () -> x.formula(12));
        x.wipe();
        Check.illegal("no formula", () -> x.formula(0));
        Check.outside("no formula for no cell", () -> x.formula(-1));
        Sheet.put(x, "c0+");
        Check.illegal("no formula that would hang on itself", () -> x.formula(0));
    }

    @Sentence(promise = 5, ahead = true, says = COUNTS)
    static void p05_countsEachRound() {
        Daemonsheet x = new Daemonsheet();
        for (int i = 0; i < 4; i++) {
            x.need(i, i + 1, true);
        }
        for (int i = 0; i < 5; i++) {
            x.control(i, 0);
        }
        Check.due("five starts one behind the other", Sheet.set(x, 0, "1"), 6);
    }

    // ---- promise 6

    @Sentence(promise = 6, says = "Holds a cell at a value, in place of one at which it may be held.")
    static void p06_holds() {
        Daemonsheet x = new Daemonsheet();
        Sheet.set(x, 0, "7");
        Sheet.set(x, 1, "c0");
        x.hold(0, 3);
        Check.due("held", x.value(0), 3);
        Check.due("what reads it", x.value(1), 3);
        x.hold(0, 4);
        Check.due("held at another value", x.value(0), 4);
        Check.due("what reads it then", x.value(1), 4);
        x.release(0);
        Check.due("held twice, released once", x.value(0), 7);
        Check.refused("it is held no more", () -> x.release(0));
    }

    @Sentence(promise = 6, says = "- `cell`: 0 to 11")
    static void p06_cells() {
        Daemonsheet x = new Daemonsheet();
        for (int i = 0; i < 12; i++) {
            x.hold(i, i + 1);
            Check.due("cell " + i, x.value(i), i + 1);
        }
    }

    @Sentence(promise = 6, says = "- `value`: -1000 to 1000")
    static void p06_values() {
        Daemonsheet x = new Daemonsheet();
        for (int value : new int[] {-1000, -999, 0, 999, 1000}) {
            x.hold(0, value);
            Check.due("held at " + value, x.value(0), value);
        }
    }

    @Sentence(promise = 6, says = ROUNDS)
    static void p06_rounds() {
        Daemonsheet x = new Daemonsheet();
        Check.due("nothing changes", x.hold(0, 0), 1);
        x.control(0, 0);
        Check.due("a service starts", x.hold(0, 1), 2);
        Check.due("it goes on", x.hold(0, 2), 1);
        Check.due("it stops", x.hold(0, 0), 2);
    }

    @Sentence(promise = 6, says = NO_CELL)
    static void p06_noSuchCell() {
        Daemonsheet x = new Daemonsheet();
        Sheet.noSuchCell("hold", cell -> x.hold(cell, 0));
    }

    @Sentence(promise = 6, says = "Throws `IllegalArgumentException` if value is out of range")
    static void p06_outOfRange() {
        Daemonsheet x = new Daemonsheet();
        Sheet.outOfRange("hold at", -1000, 1000, value -> x.hold(0, value));
        Check.refused("it is not held", () -> x.release(0));
    }

    @Sentence(promise = 6, says = AS_TOLD)
    static void p06_fortyKept() {
        Sheet.refusedWith40Kept(x -> x.hold(0, 0));
        Sheet.refusedWith40Kept(x -> x.hold(3, 1));
    }

    @Sentence(promise = 6, ahead = true, says = CHANGES_NOTHING)
    static void p06_changesNothing() {
        Sheet.changesNothing(Sheet.busy(), Sheet.busy(), x -> x.hold(12, 1), x -> x.hold(2, 1001),
                x -> x.hold(1, -1001));
        Sheet.changesNothing(Sheet.full(), Sheet.full(), x -> x.hold(2, 5), x -> x.hold(3, 5));
    }

    @Sentence(promise = 6, ahead = true, says = FIRST_NAMED)
    static void p06_cellThenValueThenState() {
        Daemonsheet x = Sheet.full();
        Check.refused("a value", () -> x.hold(0, 1000));
        Check.illegal("no value", () -> x.hold(0, 1001));
        Check.outside("no cell", () -> x.hold(12, 0));
        Check.outside("no value for no cell", () -> x.hold(-1, 1001));
    }

    @Sentence(promise = 6, ahead = true, says = COUNTS)
    static void p06_countsEachRound() {
        Daemonsheet x = new Daemonsheet();
        Sheet.set(x, 1, "c0-l0");
        x.demand(0, 1, 0);
        x.control(0, 1);
        Check.due("up to the cut, and one behind it", x.hold(0, 1), 41);
    }

    // ---- promise 7

    @Sentence(promise = 7, says = "Holds a cell no more.")
    static void p07_releases() {
        Daemonsheet x = new Daemonsheet();
        Sheet.set(x, 0, "r0");
        Sheet.set(x, 1, "c0");
        x.hold(0, 3);
        x.read(0, 8);
        x.release(0);
        Check.due("by its formula, and what it reads now", x.value(0), 8);
        Check.due("what reads it", x.value(1), 8);
        x.read(0, 9);
        Check.due("it is worked out again", x.value(0), 9);
        x.hold(0, 1);
        Check.due("held again", x.value(0), 1);
    }

    @Sentence(promise = 7, says = "- `cell`: 0 to 11")
    static void p07_cells() {
        Daemonsheet x = new Daemonsheet();
        for (int i = 0; i < 12; i++) {
            x.hold(i, 5);
            x.release(i);
            Check.due("cell " + i, x.value(i), 0);
        }
    }

    @Sentence(promise = 7, says = ROUNDS)
    static void p07_rounds() {
        Daemonsheet x = new Daemonsheet();
        x.control(0, 0);
        x.hold(0, 0);
        Check.due("nothing changes", x.release(0), 1);
        x.hold(0, 1);
        Check.due("a service stops", x.release(0), 2);
    }

    @Sentence(promise = 7, says = NO_CELL)
    static void p07_noSuchCell() {
        Daemonsheet x = new Daemonsheet();
        Sheet.noSuchCell("release", x::release);
    }

    @Sentence(promise = 7, says = "Throws `IllegalStateException` if it is not held, or as told")
    static void p07_notHeldOrFortyKept() {
        Daemonsheet x = new Daemonsheet();
        Check.refused("never held", () -> x.release(0));
        x.hold(0, 0);
        Check.refused("another one is held", () -> x.release(1));
        x.release(0);
        Check.refused("released", () -> x.release(0));
        x.hold(0, 2);
        x.undo();
        Check.refused("the hold was taken back", () -> x.release(0));
        Sheet.refusedWith40Kept(y -> y.release(3));
    }

    @Sentence(promise = 7, ahead = true, says = CHANGES_NOTHING)
    static void p07_changesNothing() {
        Sheet.changesNothing(Sheet.busy(), Sheet.busy(), x -> x.release(3), x -> x.release(12));
        Sheet.changesNothing(Sheet.full(), Sheet.full(), x -> x.release(3));
    }

    @Sentence(promise = 7, ahead = true, says = FIRST_NAMED)
    static void p07_cellThenState() {
        Daemonsheet x = Sheet.full();
        Check.refused("a held cell", () -> x.release(3));
        Check.refused("a cell that is not held", () -> x.release(0));
        Check.outside("no cell", () -> x.release(12));
        Check.outside("no cell in a new table", () -> new Daemonsheet().release(-1));
    }

    @Sentence(promise = 7, ahead = true, says = COUNTS)
    static void p07_countsEachRound() {
        Daemonsheet x = new Daemonsheet();
        x.hold(1, 0);
        Sheet.set(x, 1, "1-l0");
        x.demand(0, 1, 0);
        x.control(0, 1);
        Check.due("up to the cut, and one behind it", x.release(1), 41);
    }

    // ---- promise 8

    @Sentence(promise = 8, says = "Tells a reading, in this tick.")
    static void p08_inThisTick() {
        Daemonsheet x = new Daemonsheet();
        Sheet.set(x, 0, "r2");
        x.tick(20);
        x.read(2, 6);
        Check.due("value", x.value(0), 6);
        Check.due("told", x.isStale(0), false);
        x.tick(10);
        Check.due("told 10 ticks ahead", x.isStale(0), false);
        x.tick(1);
        Check.due("told 11 ticks ahead", x.isStale(0), true);
        Check.due("the value stays", x.value(0), 6);
    }

    @Sentence(promise = 8, says = "- `reading`: 0 to 4")
    static void p08_eachReading() {
        for (int i = 0; i < 5; i++) {
            Daemonsheet x = new Daemonsheet();
            Sheet.set(x, 0, "r" + i);
            Sheet.set(x, 1, "r" + (i + 1) % 5);
            x.read(i, 4);
            Check.due("reading " + i, x.value(0), 4);
            Check.due("another one", x.value(1), 0);
            Check.due("told", x.isStale(0), false);
            Check.due("another one is not told", x.isStale(1), true);
        }
    }

    @Sentence(promise = 8, says = "- `value`: -1000 to 1000")
    static void p08_values() {
        Daemonsheet x = new Daemonsheet();
        Sheet.set(x, 0, "r0");
        for (int value : new int[] {-1000, -999, 0, 999, 1000}) {
            x.read(0, value);
            Check.due("told " + value, x.value(0), value);
        }
    }

    @Sentence(promise = 8, says = ROUNDS)
    static void p08_rounds() {
        Daemonsheet x = new Daemonsheet();
        Check.due("nothing changes", x.read(0, 0), 1);
        Sheet.set(x, 0, "r0");
        Check.due("a cell changes", x.read(0, 1), 1);
        x.control(0, 0);
        Check.due("it runs on", x.read(0, 2), 1);
        Check.due("it stops", x.read(0, 0), 2);
        Check.due("it starts", x.read(0, 3), 2);
        Sheet.set(x, 1, "r1+1");
        x.control(1, 1);
        Check.due("it starts by the same value, told", x.read(1, 0), 2);
    }

    @Sentence(promise = 8,
            says = "Throws `IndexOutOfBoundsException` if there is no such reading")
    static void p08_noSuchReading() {
        Daemonsheet x = new Daemonsheet();
        Sheet.noSuchReading("read", reading -> x.read(reading, 0));
    }

    @Sentence(promise = 8, says = "Throws `IllegalArgumentException` if value is out of range")
    static void p08_outOfRange() {
        Daemonsheet x = new Daemonsheet();
        Sheet.set(x, 0, "r0");
        Sheet.outOfRange("read", -1000, 1000, value -> x.read(0, value));
        Check.due("it is not told", x.isStale(0), true);
    }

    @Sentence(promise = 8, says = AS_TOLD)
    static void p08_fortyKept() {
        Sheet.refusedWith40Kept(x -> x.read(0, 0));
        Sheet.refusedWith40Kept(x -> x.read(4, 1000));
    }

    @Sentence(promise = 8, ahead = true, says = CHANGES_NOTHING)
    static void p08_changesNothing() {
        Sheet.changesNothing(Sheet.busy(), Sheet.busy(), x -> x.read(1, 1001), x -> x.read(5, 1),
                x -> x.read(-1, 1), x -> x.read(1, -1001));
        Daemonsheet x = Sheet.full();
        Daemonsheet twin = Sheet.full();
        for (Daemonsheet one : new Daemonsheet[] {x, twin}) {
            one.undo();
            Sheet.set(one, 4, "r0");
        }
        Sheet.changesNothing(x, twin, y -> y.read(0, 3));
    }

    @Sentence(promise = 8, ahead = true, says = FIRST_NAMED)
    static void p08_readingThenValueThenState() {
        Daemonsheet x = Sheet.full();
        Check.refused("a value", () -> x.read(0, 1000));
        Check.illegal("no value", () -> x.read(0, 1001));
        Check.outside("no reading", () -> x.read(5, 0));
        Check.outside("no value for no reading", () -> x.read(-1, -1001));
    }

    @Sentence(promise = 8, ahead = true, says = COUNTS)
    static void p08_countsEachRound() {
        Daemonsheet x = new Daemonsheet();
        Sheet.set(x, 1, "r0-l0");
        x.demand(0, 1, 0);
        x.control(0, 1);
        Check.due("up to the cut, and one behind it", x.read(0, 1), 41);
    }
}
