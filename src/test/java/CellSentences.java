/** What the document says of calls, of numbers and of cells ahead of its promises. */
final class CellSentences {
    private CellSentences() {
    }

    // ---- calls

    @Sentence(promise = 1, ahead = true,
            says = "An object is used for at most 512 calls after it has been made;")
    static void p01_letters512() {
        Daemonsheet x = new Daemonsheet();
        for (int call = 1; call <= 512; call++) {
            int letters = (call - 1) % 32;
            if (letters == 31) {
                Check.due("wipe as call " + call, x.wipe(), 30);
            } else if (letters == 30) {
                Check.refused("type as call " + call, () -> x.type('1'));
            } else {
                Check.due("type as call " + call, x.type('1'), letters + 1);
            }
        }
    }

    @Sentence(promise = 16, ahead = true,
            says = "An object is used for at most 512 calls after it has been made;")
    static void p16_steps512() {
        Daemonsheet x = new Daemonsheet();
        int call = 0;
        while (call < 40) {
            call++;
            Check.due("tick as call " + call, x.tick(49), 49);
        }
        while (call < 512) {
            call++;
            if (call % 2 == 1) {
                Check.due("undo as call " + call, x.undo(), 39);
            } else {
                Check.due("tick as call " + call, x.tick(50), 50);
            }
        }
    }

    @Sentence(promise = 29, ahead = true,
            says = "An object is used for at most 512 calls after it has been made;")
    static void p29_trials512() {
        Daemonsheet x = new Daemonsheet();
        Sheet.set(x, 0, "r0-l0");
        x.demand(0, 1, 0);
        x.control(0, 0);
        for (int i = 0; i < 20; i++) {
            x.read(0, i % 2);
        }
        // So far 6 calls for the text, 3 steps and 20 readings.
        for (int call = 30; call <= 512; call++) {
            if (call % 2 == 0) {
                Check.due("trial as call " + call, x.trial(0), 20);
            } else {
                Check.due("valueAnew as call " + call, x.valueAnew(0), 1);
            }
        }
    }

    @Sentence(promise = 17, ahead = true, says = "Formulas are typed, cells, readings and services "
            + "are told in steps, ticks pass; values, states, loads, work, faults of texts and trials "
            + "are asked.")
    static void p17_askingTellsNothing() {
        Daemonsheet x = Sheet.busy();
        Daemonsheet twin = Sheet.busy();
        String first = Sheet.all(x);
        Check.due("asked a second time", Sheet.all(x), first);
        Check.due("a step behind it", x.tick(9), twin.tick(9));
        Check.due("asked behind a step", Sheet.all(x), Sheet.all(twin));
        Check.due("letters", x.wipe(), twin.wipe());
    }

    // ---- how many there are

    @Sentence(promise = 19, ahead = true, says = "Cells are 0 to 11,")
    static void p19_cells0To11() {
        for (int cell : new int[] {0, 11}) {
            Daemonsheet x = new Daemonsheet();
            Sheet.set(x, cell, "r0+4");
            Check.due("value of " + cell, x.value(cell), 4);
            Check.due("valueAnew of " + cell, x.valueAnew(cell), 4);
            Check.due("worth of " + cell, x.worth(cell), 4);
            Check.due("depth of " + cell, x.depth(cell), 0);
            Check.due("isStale of " + cell, x.isStale(cell), true);
            x.hold(cell, 2);
            x.release(cell);
            x.control(0, cell);
            x.limit(0, cell);
            Check.due("steps with " + cell, x.steps(), 5);
        }
    }

    @Sentence(promise = 8, ahead = true, says = "readings 0 to 4,")
    static void p08_readings() {
        Daemonsheet x = new Daemonsheet();
        for (int reading = 0; reading <= 4; reading++) {
            x.read(reading, 10 + reading);
            Sheet.set(x, reading, "r" + reading);
            Check.due("reading " + reading, x.value(reading), 10 + reading);
        }
    }

    @Sentence(promise = 19, ahead = true, says = "each with the value 0 at first,")
    static void p19_zeroAtFirst() {
        Daemonsheet x = new Daemonsheet();
        for (int i = 0; i < 12; i++) {
            Check.due("cell " + i, x.value(i), 0);
        }
        for (int i = 0; i < 5; i++) {
            Sheet.set(x, 11, "r" + i + "+1");
            Check.due("reading " + i, x.value(11), 1);
        }
    }

    @Sentence(promise = 25, ahead = true, says = "services 0 to 4,")
    static void p25_services() {
        for (int service : new int[] {0, 4}) {
            Daemonsheet x = new Daemonsheet();
            x.hold(0, 1);
            x.demand(service, 3, 0);
            x.limit(service, 0);
            x.lie(service, 8);
            x.need(service, 4 - service, true);
            x.control(service, 0);
            Check.due("state of " + service, x.state(service), Daemonsheet.STOPPED);
            x.control(4 - service, 0);
            Check.due("state of " + service + " then", x.state(service), Daemonsheet.RUNNING);
            Check.due("load of " + service, x.load(service), 1);
            Check.due("told by " + service, x.told(service), 8);
            Check.due("starts of " + service, x.starts(service), 1);
            Check.due("trial of " + service, x.trial(service), 1);
            Check.due("isLoop of " + service, x.isLoop(service), false);
        }
    }

    @Sentence(promise = 18, ahead = true, says = "ticks 0 to 2000;")
    static void p18_ticksUpTo2000() {
        Daemonsheet x = new Daemonsheet();
        for (int i = 0; i < 40; i++) {
            x.tick(50);
        }
        Check.due("now", x.now(), 2000);
        Check.refused("a tick behind it", () -> x.tick(1));
        Check.refused("fifty behind it", () -> x.tick(50));
        Check.due("now then", x.now(), 2000);
        x.undo();
        Check.due("now before", x.now(), 1950);
        x.tick(49);
        Check.due("now one before", x.now(), 1999);
    }

    @Sentence(promise = 18, ahead = true, says = "now is 0 at first.")
    static void p18_nowAtFirst() {
        Check.due("now", new Daemonsheet().now(), 0);
    }

    // ---- cells

    @Sentence(promise = 21, ahead = true,
            says = "A cell has a formula, the number 0 at first, and a value, 0 at first.")
    static void p21_formulaAtFirst() {
        Daemonsheet x = new Daemonsheet();
        for (int i = 0; i < 12; i++) {
            Check.due("worth of " + i, x.worth(i), 0);
            Check.due("value of " + i, x.value(i), 0);
            Check.due("depth of " + i, x.depth(i), 0);
            Check.due("isStale of " + i, x.isStale(i), false);
            x.hold(i, 7);
            Check.due("worth of " + i + " held", x.worth(i), 0);
            x.release(i);
            Check.due("value of " + i + " released", x.value(i), 0);
        }
    }

    @Sentence(promise = 23, ahead = true,
            says = "It reads those cells, readings and services that its formula names.")
    static void p23_whatIsNamed() {
        Daemonsheet x = new Daemonsheet();
        Sheet.set(x, 0, "i(1,5,r2)");
        Check.due("a reading that is not come to", x.isStale(0), true);
        Sheet.set(x, 1, "0*c0");
        Check.due("a cell that counts for nothing", x.isStale(1), true);
        Check.due("its depth", x.depth(1), 1);
        int work = x.work();
        x.read(2, 9);
        Check.due("work by a reading that is not come to", x.work(), work + 1);
        Sheet.set(x, 2, "i(0,l3,1)");
        x.control(3, 2);
        Check.due("a service that is not come to", x.isLoop(3), true);
        Sheet.set(x, 1, "11");
        Check.due("a cell that is named no more", x.depth(1), 0);
        Check.due("11 names no cell", x.isStale(1), false);
    }

    @Sentence(promise = 5, ahead = true, says = "No cell may hang on itself by what cells read of "
            + "cells; over services it may.")
    static void p05_noCellHangsOnItself() {
        Daemonsheet x = new Daemonsheet();
        for (int i = 0; i < 11; i++) {
            Sheet.set(x, i, "c" + (i + 1));
        }
        for (int i = 0; i < 12; i++) {
            int cell = i;
            Sheet.put(x, "c" + i);
            Check.refused("itself, " + i, () -> x.formula(cell));
            Check.refused("the last one on " + i, () -> x.formula(11));
        }
        Sheet.put(x, "i(0,c0,1)");
        Check.refused("what is not come to", () -> x.formula(11));
        x.hold(5, 1);
        Check.refused("over a held one", () -> x.formula(11));
        x.control(0, 0);
        Check.due("over services", Sheet.set(x, 11, "l0"), 1);
        Check.due("it hangs on itself there", x.isLoop(0), true);
    }

    @Sentence(promise = 22, ahead = true, says = "The depth of a cell is 0 if it reads no cell, "
            + "otherwise 1 more than the greatest depth of those that it reads.")
    static void p22_depths() {
        Daemonsheet x = new Daemonsheet();
        Sheet.set(x, 0, "r0+l0+7");
        Check.due("no cell", x.depth(0), 0);
        Sheet.set(x, 1, "c0");
        Check.due("a cell of depth 0", x.depth(1), 1);
        Sheet.set(x, 2, "c1+c0");
        Check.due("cells of depths 1 and 0", x.depth(2), 2);
        Sheet.set(x, 3, "c0+c2+c1+c11");
        Check.due("cells of depths 0, 2, 1 and 0", x.depth(3), 3);
        Sheet.set(x, 0, "c11");
        Check.due("all go down", x.depth(3), 4);
        Sheet.set(x, 1, "0");
        Check.due("and up", x.depth(3), 3);
    }

    @Sentence(promise = 24, ahead = true, says = "A cell is dirty when its formula was set,")
    static void p24_dirtyByItsFormula() {
        Daemonsheet x = new Daemonsheet();
        Check.due("at first none is", x.work(), 0);
        Sheet.set(x, 0, "0");
        Check.due("a formula as at first", x.work(), 1);
        x.formula(0);
        Check.due("the same once more", x.work(), 2);
        Sheet.set(x, 1, "c0");
        Check.due("another cell", x.work(), 3);
        Sheet.set(x, 0, "1");
        Check.due("it, and what reads it", x.work(), 5);
    }

    @Sentence(promise = 24, ahead = true, says = "when it is held no more,")
    static void p24_dirtyWhenReleased() {
        Daemonsheet x = new Daemonsheet();
        Sheet.set(x, 1, "c0");
        x.hold(0, 0);
        Check.due("held at the value that it has", x.work(), 1);
        x.release(0);
        Check.due("released to the value that it has", x.work(), 2);
        x.hold(0, 3);
        Check.due("held at another one: its reader", x.work(), 3);
        x.release(0);
        Check.due("released to another one: both", x.work(), 5);
    }

    @Sentence(promise = 24, ahead = true, says = "and when a reading, the value of a cell, or the "
            + "load told by a service that it reads has become another one.")
    static void p24_dirtyByWhatItReads() {
        Daemonsheet x = new Daemonsheet();
        Sheet.set(x, 0, "r0>5");
        Sheet.set(x, 1, "c0+c0");
        Sheet.set(x, 2, "l0");
        Check.due("three formulas", x.work(), 3);
        x.read(0, 0);
        Check.due("the same reading", x.work(), 3);
        x.read(0, 5);
        Check.due("another reading, the same value", x.work(), 4);
        x.read(0, 6);
        Check.due("another reading, another value", x.work(), 6);
        x.read(1, 9);
        Check.due("a reading that is not read", x.work(), 6);
        x.demand(0, 4, 0);
        x.control(0, 0);
        Check.due("another load told", x.work(), 7);
        x.lie(0, 4);
        x.demand(0, 9, 0);
        Check.due("another load, the same one told", x.work(), 7);
        x.lie(0, 5);
        Check.due("the same load, another one told", x.work(), 8);
    }

    @Sentence(promise = 24, ahead = true,
            says = "cells that are worked out only when something they read has changed,")
    static void p24_onlyWhenChanged() {
        Daemonsheet x = new Daemonsheet();
        Sheet.set(x, 0, "r0");
        x.tick(50);
        x.read(1, 4);
        x.hold(1, 3);
        x.demand(0, 4, 0);
        x.control(0, 1);
        x.need(0, 1, true);
        x.lie(0, 7);
        Check.due("nothing that it reads", x.work(), 1);
        x.read(0, 1);
        Check.due("what it reads", x.work(), 2);
    }

    @Sentence(promise = 19, ahead = true, says = "To work a dirty cell out is to give it the value "
            + "of its formula; it is dirty no more.")
    static void p19_workedOut() {
        Daemonsheet x = new Daemonsheet();
        Sheet.set(x, 0, "r0*2");
        x.read(0, 4);
        Check.due("its value", x.value(0), 8);
        Check.due("its worth", x.worth(0), 8);
        int work = x.work();
        x.tick(3);
        x.hold(5, 2);
        Check.due("dirty no more", x.work(), work);
    }

    @Sentence(promise = 6, ahead = true, says = "A cell may be held at a value; as long as it is, it "
            + "is not worked out, and not dirty.")
    static void p06_heldIsNotWorkedOut() {
        Daemonsheet x = new Daemonsheet();
        Sheet.set(x, 0, "r0");
        x.hold(0, 5);
        int work = x.work();
        x.read(0, 7);
        Check.due("what it reads is another one", x.value(0), 5);
        Sheet.set(x, 0, "r0+1");
        Check.due("its formula was set", x.value(0), 5);
        x.hold(0, 6);
        Check.due("held at another value", x.value(0), 6);
        Check.due("work", x.work(), work);
        x.release(0);
        Check.due("released: worked out once", x.work(), work + 1);
        Check.due("value", x.value(0), 8);
    }

    @Sentence(promise = 23, ahead = true, says = "A reading is stale if it was never told, or not in "
            + "this tick and the 10 ticks ahead of it.")
    static void p23_staleReadings() {
        Daemonsheet x = new Daemonsheet();
        Sheet.set(x, 0, "r3");
        Check.due("never told, in the first tick", x.isStale(0), true);
        x.tick(5);
        Check.due("never told, in an early tick", x.isStale(0), true);
        x.read(3, 0);
        Check.due("told in this tick", x.isStale(0), false);
        x.tick(9);
        Check.due("9 ticks ahead", x.isStale(0), false);
        x.tick(1);
        Check.due("10 ticks ahead", x.isStale(0), false);
        x.tick(1);
        Check.due("11 ticks ahead", x.isStale(0), true);
        x.read(3, 0);
        Check.due("told the same anew", x.isStale(0), false);
        x.tick(50);
        Check.due("50 ticks ahead", x.isStale(0), true);
        Daemonsheet y = new Daemonsheet();
        Sheet.set(y, 0, "r0");
        y.read(0, 0);
        y.tick(10);
        Check.due("told in tick 0, in tick 10", y.isStale(0), false);
        y.tick(1);
        Check.due("told in tick 0, in tick 11", y.isStale(0), true);
    }

    @Sentence(promise = 23, ahead = true,
            says = "A cell is stale if it is not held, and reads a stale reading or a stale cell.")
    static void p23_staleCells() {
        Daemonsheet x = new Daemonsheet();
        Sheet.set(x, 0, "r0+r1");
        Sheet.set(x, 1, "c0");
        Sheet.set(x, 2, "c1+c9");
        x.read(0, 1);
        Check.due("one of two readings is stale", x.isStale(0), true);
        Check.due("over two cells", x.isStale(2), true);
        x.read(1, 1);
        Check.due("no reading is stale", x.isStale(2), false);
        x.tick(11);
        Check.due("both are", x.isStale(2), true);
        x.hold(1, 0);
        Check.due("held", x.isStale(1), false);
        Check.due("what reads a held one", x.isStale(2), false);
        Check.due("what a held one reads", x.isStale(0), true);
        x.release(1);
        Check.due("held no more", x.isStale(2), true);
    }
}
