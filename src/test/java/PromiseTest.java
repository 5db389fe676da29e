/** Each promise of the document by itself: what is ordinary, its edges, and what is wrong. */
public final class PromiseTest {
    private static final int NONE = Daemonsheet.NONE;
    private static final int STOPPED = Daemonsheet.STOPPED;
    private static final int STARTING = Daemonsheet.STARTING;
    private static final int RUNNING = Daemonsheet.RUNNING;
    private static final int CUT = Daemonsheet.CUT;

    private PromiseTest() {
    }

    public static void main(String[] args) {
        newObject();
        type();
        wipe();
        faultOfFormulas();
        faultOfOthers();
        formula();
        formulaWorth();
        formulaKeptWithin();
        formulaThatHangs();
        hold();
        release();
        read();
        control();
        limit();
        demand();
        need();
        lie();
        mend();
        tick();
        tickToTheEnd();
        undo();
        undoOfEachKind();
        fortySteps();
        stepsAndNow();
        value();
        valueAnew();
        worth();
        depth();
        isStale();
        work();
        state();
        delays();
        loadAndTold();
        starts();
        cutOfTheLateOnes();
        cutOneByOne();
        trial();
        trialOfHeldAndDeep();
        trialOfReadings();
        isLoop();
        Check.end();
    }

    // ---- the promises

    private static void newObject() {
        Daemonsheet x = new Daemonsheet();
        Check.due("wipe of a new one", x.wipe(), 0);
        Check.due("steps of a new one", x.steps(), 0);
        Check.due("now of a new one", x.now(), 0);
        Check.due("work of a new one", x.work(), 0);
        for (int i = 0; i < 12; i++) {
            Check.due("value of a new cell", x.value(i), 0);
            Check.due("worth of a new cell", x.worth(i), 0);
            Check.due("depth of a new cell", x.depth(i), 0);
            Check.due("isStale of a new cell", x.isStale(i), false);
        }
        for (int i = 0; i < 5; i++) {
            Check.due("state of a new service", x.state(i), STOPPED);
            Check.due("load of a new service", x.load(i), 0);
            Check.due("told of a new service", x.told(i), 0);
            Check.due("starts of a new service", x.starts(i), 0);
            Check.due("trial of a new service", x.trial(i), 0);
            Check.due("isLoop of a new service", x.isLoop(i), false);
        }
        Check.due("NONE", NONE, -1);
        Check.due("STOPPED", STOPPED, 0);
        Check.due("STARTING", STARTING, 1);
        Check.due("RUNNING", RUNNING, 2);
        Check.due("CUT", CUT, 3);
    }

    private static void type() {
        String letters = "0123456789crlmni+-*<>=(),";
        Daemonsheet x = new Daemonsheet();
        for (int i = 0; i < letters.length(); i++) {
            Check.due("type " + letters.charAt(i), x.type(letters.charAt(i)), i + 1);
        }
        for (int letter = 0; letter <= 0xffff; letter++) {
            char other = (char) letter;
            if (letters.indexOf(other) < 0) {
                // One object is good for 512 calls alone.
                Check.illegal("type of the letter " + letter, () -> new Daemonsheet().type(other));
            }
        }
        for (int i = 26; i <= 30; i++) {
            Check.due("type", x.type('0'), i);
        }
        Check.refused("type of a 31st letter", () -> x.type('0'));
        Check.illegal("type of a wrong 31st letter", () -> x.type('/'));
        Check.due("wipe", x.wipe(), 30);
    }

    private static void wipe() {
        Daemonsheet x = new Daemonsheet();
        Sheet.put(x, "c1+");
        Check.due("wipe", x.wipe(), 3);
        Check.due("wipe again", x.wipe(), 0);
        Check.due("fault behind wipe", x.fault(), 0);
        Check.due("type behind wipe", x.type('7'), 1);
        Check.due("fault of the new text", x.fault(), NONE);
    }

    private static void faultOfFormulas() {
        String[] texts = {"0", "0000", "9999", "c0", "c9", "c10", "c11", "r0", "r4", "l0", "l4",
            "-1", "---c1", "(1)", "((1<2)=3)", "1+2-3*4", "1<2", "1>2", "1=2", "m(1,2)", "n(1<2,2=3)",
            "i(1,2,3)", "i(m(1,2)<3,n(4,5),-(6))*7", "1*-2", "1--2", "1+(2<3)", "(1<2)<3"};
        for (String text : texts) {
            Sheet.faultDue(text, NONE);
        }
    }

    private static void faultOfOthers() {
        Check.due("fault of no text", new Daemonsheet().fault(), 0);
        String[] tooShort = {"-", "c", "r", "l", "m", "n", "i", "(", "1+", "1*", "1<", "(1", "m(",
            "m(1", "m(1,", "m(1,2", "i(1,2", "i(1,2,", "i(1,2,3", "1<2+", "((1)", "1>-"};
        for (String text : tooShort) {
            Sheet.faultDue(text, text.length());
        }
        Sheet.faultDue("((((((((((((((((((((((((((((((", 30);
        Sheet.faultDue("------------------------------", 30);
        Sheet.faultDue("m(m(m(m(m(m(m(m(m(m(m(m(m(m(m(", 30);
        Sheet.faultDue("12345", 4);
        Sheet.faultDue("c12", 2);
        Sheet.faultDue("c00", 2);
        Sheet.faultDue("c01", 2);
        Sheet.faultDue("c110", 3);
        Sheet.faultDue("c20", 2);
        Sheet.faultDue("cc", 1);
        Sheet.faultDue("c-", 1);
        Sheet.faultDue("r5", 1);
        Sheet.faultDue("r00", 2);
        Sheet.faultDue("r10", 2);
        Sheet.faultDue("l5", 1);
        Sheet.faultDue("l9", 1);
        Sheet.faultDue("l41", 2);
        Sheet.faultDue("+1", 0);
        Sheet.faultDue(")", 0);
        Sheet.faultDue(",", 0);
        Sheet.faultDue("1)", 1);
        Sheet.faultDue("1,2", 1);
        Sheet.faultDue("1(", 1);
        Sheet.faultDue("1c1", 1);
        Sheet.faultDue("()", 1);
        Sheet.faultDue("(1,2)", 2);
        Sheet.faultDue("m1", 1);
        Sheet.faultDue("m(1)", 3);
        Sheet.faultDue("n(1,2,3)", 5);
        Sheet.faultDue("i(1,2)", 5);
        Sheet.faultDue("i(1,2,3,4)", 7);
        Sheet.faultDue("1<2<3", 3);
        Sheet.faultDue("1<2=3", 3);
        Sheet.faultDue("1<=2", 2);
        Sheet.faultDue("(1<2>3)", 4);
        Sheet.faultDue("m(1<2,3<4<5)", 9);
        Sheet.faultDue("1+*2", 2);
        Sheet.faultDue("1**2", 2);
        Sheet.faultDue("1+2i", 3);
        Sheet.faultDue("(1)(2)", 3);
    }

    private static void formula() {
        Daemonsheet x = new Daemonsheet();
        Check.due("formula", Sheet.set(x, 3, "7"), 1);
        Check.due("value", x.value(3), 7);
        Check.due("the text stays", x.formula(4), 1);
        Check.due("value of the second", x.value(4), 7);
        Check.due("wipe", x.wipe(), 1);
        Check.illegal("formula of no text", () -> x.formula(3));
        Check.outside("formula of no text in no cell", () -> x.formula(12));
        Sheet.put(x, "1");
        Check.outside("formula -1", () -> x.formula(-1));
        Check.due("formula 11", x.formula(11), 1);
        Check.due("steps", x.steps(), 3);
        Check.due("work", x.work(), 3);
        Sheet.set(x, 3, "c11+r2");
        Check.due("a formula in place of another", x.value(3), 1);
        Sheet.set(x, 11, "5");
        Check.due("a cell behind it", x.value(3), 5);
        Sheet.set(x, 3, "1");
        Sheet.set(x, 11, "2");
        Check.due("reads no more", x.value(3), 1);
    }

    private static void formulaWorth() {
        Check.due("10-3-2", Sheet.worthOf("10-3-2"), 5);
        Check.due("2+3*4", Sheet.worthOf("2+3*4"), 14);
        Check.due("2*3+4", Sheet.worthOf("2*3+4"), 10);
        Check.due("(2+3)*4", Sheet.worthOf("(2+3)*4"), 20);
        Check.due("2-3*4+1", Sheet.worthOf("2-3*4+1"), -9);
        Check.due("-2*3", Sheet.worthOf("-2*3"), -6);
        Check.due("--5", Sheet.worthOf("--5"), 5);
        Check.due("-2+3", Sheet.worthOf("-2+3"), 1);
        Check.due("1+1<2", Sheet.worthOf("1+1<2"), 0);
        Check.due("1+1<3", Sheet.worthOf("1+1<3"), 1);
        Check.due("3>2", Sheet.worthOf("3>2"), 1);
        Check.due("2>2", Sheet.worthOf("2>2"), 0);
        Check.due("2=2", Sheet.worthOf("2=2"), 1);
        Check.due("2=3", Sheet.worthOf("2=3"), 0);
        Check.due("m(3,8)", Sheet.worthOf("m(3,8)"), 8);
        Check.due("m(8,3)", Sheet.worthOf("m(8,3)"), 8);
        Check.due("n(3,8)", Sheet.worthOf("n(3,8)"), 3);
        Check.due("n(8,-3)", Sheet.worthOf("n(8,-3)"), -3);
        Check.due("i(1,5,6)", Sheet.worthOf("i(1,5,6)"), 5);
        Check.due("i(0,5,6)", Sheet.worthOf("i(0,5,6)"), 6);
        Check.due("i(-1,5,6)", Sheet.worthOf("i(-1,5,6)"), 6);
        Check.due("i(2<1,5,i(1<2,7,8))+1", Sheet.worthOf("i(2<1,5,i(1<2,7,8))+1"), 8);
        Check.due("0012", Sheet.worthOf("0012"), 12);
        Check.due("-(2<3)", Sheet.worthOf("-(2<3)"), -1);
        Check.due("deep brackets", Sheet.worthOf("((((((((((((((1))))))))))))))"), 1);
        Check.due("many minuses", Sheet.worthOf("-----------------------------3"), -3);
        Check.due("fifteen numbers", Sheet.worthOf("1+1+1+1+1+1+1+1+1+1+1+1+1+1+1"), 15);
        Check.due("to the right", Sheet.worthOf("1-(1-(1-(1-(1-(1-(1-1))))))"), 0);
    }

    private static void formulaKeptWithin() {
        Check.due("999*1001", Sheet.worthOf("999*1001"), 999999);
        Check.due("1000*1000", Sheet.worthOf("1000*1000"), 1000000);
        Check.due("1001*1000", Sheet.worthOf("1001*1000"), 1000000);
        Check.due("-1001*1000", Sheet.worthOf("-1001*1000"), -1000000);
        Check.due("9999*9999*9999-1", Sheet.worthOf("9999*9999*9999-1"), 999999);
        Check.due("1000*1000+1-1", Sheet.worthOf("1000*1000+1-1"), 999999);
        Check.due("-1000*1000-1+1", Sheet.worthOf("-1000*1000-1+1"), -999999);
        Check.due("-9999*9999*(9999*9999)", Sheet.worthOf("-9999*9999*(9999*9999)"), -1000000);
        Check.due("9999*9999=1000*1000", Sheet.worthOf("9999*9999=1000*1000"), 1);
    }

    private static void formulaThatHangs() {
        Daemonsheet x = new Daemonsheet();
        Sheet.put(x, "c0");
        Check.refused("formula of itself", () -> x.formula(0));
        x.formula(1);
        Sheet.put(x, "c1");
        x.formula(2);
        x.formula(3);
        Sheet.put(x, "1+c3");
        Check.refused("formula over two", () -> x.formula(0));
        Sheet.put(x, "m(c2,r1)");
        Check.refused("formula over another two", () -> x.formula(0));
        Check.due("steps behind what was refused", x.steps(), 3);
        Check.due("depth behind what was refused", x.depth(0), 0);
        x.hold(1, 4);
        Sheet.put(x, "c1");
        Check.refused("formula over a held one", () -> x.formula(0));
        Sheet.set(x, 1, "3");
        Sheet.set(x, 0, "c3");
        Check.due("depth when it hangs no more", x.depth(0), 2);
        Sheet.put(x, "i(0,c0,1)");
        Check.refused("a branch that is not taken", () -> x.formula(1));
        Sheet.set(x, 5, "l0");
        x.control(0, 5);
        Check.due("over services it may", x.isLoop(0), true);
    }

    private static void hold() {
        Daemonsheet x = new Daemonsheet();
        Sheet.set(x, 1, "c0*2");
        Check.due("hold", x.hold(0, 1000), 1);
        Check.due("value held", x.value(0), 1000);
        Check.due("value of its reader", x.value(1), 2000);
        Check.due("hold anew", x.hold(0, -1000), 1);
        Check.due("value of its reader then", x.value(1), -2000);
        int work = x.work();
        x.hold(0, -1000);
        Check.due("the same value makes no work", x.work(), work);
        Sheet.set(x, 0, "5");
        Check.due("a held cell is not worked out", x.value(0), -1000);
        Check.due("nor counted", x.work(), work);
        Check.outside("hold 12", () -> x.hold(12, 0));
        Check.outside("hold -1", () -> x.hold(-1, 5000));
        Check.illegal("hold at 1001", () -> x.hold(0, 1001));
        Check.illegal("hold at -1001", () -> x.hold(0, -1001));
        Check.due("value behind wrong holds", x.value(0), -1000);
        x.hold(1, 3);
        x.hold(0, 8);
        Check.due("a held reader stays", x.value(1), 3);
        x.hold(11, 1);
        Check.due("the last cell", x.value(11), 1);
        x.demand(0, 1, 0);
        x.control(0, 10);
        Check.due("hold that starts a service", x.hold(10, 1), 2);
    }

    private static void release() {
        Daemonsheet x = new Daemonsheet();
        Sheet.set(x, 0, "4");
        Sheet.set(x, 1, "c0");
        x.hold(0, 9);
        Check.due("value of the reader", x.value(1), 9);
        int work = x.work();
        Check.due("release", x.release(0), 1);
        Check.due("value", x.value(0), 4);
        Check.due("value of the reader then", x.value(1), 4);
        Check.due("work by it", x.work(), work + 2);
        Check.refused("release again", () -> x.release(0));
        Check.outside("release 12", () -> x.release(12));
        Check.outside("release -1", () -> x.release(-1));
        x.hold(0, 4);
        work = x.work();
        x.release(0);
        Check.due("a cell held no more is worked out, its reader is not", x.work(), work + 1);
        x.hold(0, 1);
        Sheet.set(x, 0, "r0+7");
        x.release(0);
        Check.due("the formula set meanwhile", x.value(0), 7);
    }

    private static void read() {
        Daemonsheet x = new Daemonsheet();
        Sheet.set(x, 0, "r0-r4");
        Check.due("read", x.read(0, 1000), 1);
        Check.due("value", x.value(0), 1000);
        x.read(4, -1000);
        Check.due("value by both", x.value(0), 2000);
        int work = x.work();
        x.read(4, -1000);
        Check.due("the same makes no work", x.work(), work);
        x.read(3, 5);
        Check.due("one that is not read makes no work", x.work(), work);
        Check.outside("read 5", () -> x.read(5, 0));
        Check.outside("read -1", () -> x.read(-1, 1001));
        Check.illegal("read 1001", () -> x.read(0, 1001));
        Check.illegal("read -1001", () -> x.read(0, -1001));
        Check.due("steps", x.steps(), 5);
        Sheet.set(x, 1, "r1");
        x.control(0, 1);
        Check.due("read that starts a service without demand", x.read(1, 1), 2);
    }

    private static void control() {
        Daemonsheet x = new Daemonsheet();
        Sheet.set(x, 0, "1");
        Check.due("control", x.control(0, 0), 2);
        Check.due("state", x.state(0), RUNNING);
        Check.due("control by a 0", x.control(0, 11), 2);
        Check.due("state then", x.state(0), STOPPED);
        x.control(0, 0);
        Check.due("control by none", x.control(0, NONE), 2);
        Check.due("state by none", x.state(0), STOPPED);
        Sheet.set(x, 1, "-1");
        x.control(4, 1);
        Check.due("state by less than 0", x.state(4), STOPPED);
        Check.outside("control 5", () -> x.control(5, 0));
        Check.outside("control -1", () -> x.control(-1, 0));
        Check.outside("control by 12", () -> x.control(0, 12));
        Check.outside("control by -2", () -> x.control(0, -2));
        Check.due("steps", x.steps(), 7);
    }

    private static void limit() {
        Daemonsheet x = new Daemonsheet();
        Sheet.set(x, 0, "1");
        x.demand(2, 10, 0);
        x.control(2, 0);
        Sheet.set(x, 1, "4");
        Check.due("limit", x.limit(2, 1), 2);
        Check.due("load", x.load(2), 4);
        Sheet.set(x, 1, "10");
        Check.due("load at the limit", x.load(2), 10);
        Sheet.set(x, 1, "11");
        Check.due("load below the limit", x.load(2), 10);
        Sheet.set(x, 1, "-3");
        Check.due("load is not less than 0", x.load(2), 0);
        Check.due("limit by none", x.limit(2, NONE), 2);
        Check.due("load without a limit", x.load(2), 10);
        Check.outside("limit 5", () -> x.limit(5, 0));
        Check.outside("limit -1", () -> x.limit(-1, 0));
        Check.outside("limit by 12", () -> x.limit(0, 12));
        Check.outside("limit by -2", () -> x.limit(0, -2));
        x.limit(2, 11);
        Check.due("load by a cell that is 0", x.load(2), 0);
        Check.due("it runs all the same", x.state(2), RUNNING);
    }

    private static void demand() {
        Daemonsheet x = new Daemonsheet();
        Sheet.set(x, 0, "1");
        x.control(1, 0);
        Check.due("demand", x.demand(1, 1000, 10), 2);
        Check.due("load", x.load(1), 1000);
        Check.due("the same demand", x.demand(1, 1000, 10), 1);
        x.demand(1, 0, 0);
        Check.due("load of 0", x.load(1), 0);
        Check.outside("demand 5", () -> x.demand(5, 0, 0));
        Check.outside("demand -1", () -> x.demand(-1, -1, -1));
        Check.illegal("demand of 1001", () -> x.demand(0, 1001, 0));
        Check.illegal("demand of -1", () -> x.demand(0, -1, 0));
        Check.illegal("delay of 11", () -> x.demand(0, 0, 11));
        Check.illegal("delay of -1", () -> x.demand(0, 0, -1));
        Check.due("steps", x.steps(), 5);
    }

    private static void need() {
        Daemonsheet x = new Daemonsheet();
        Sheet.set(x, 0, "1");
        x.need(0, 3, true);
        x.control(0, 0);
        Check.due("state of what needs", x.state(0), STOPPED);
        Check.due("the later one is seen a round later", x.control(3, 0), 3);
        Check.due("states of both", Sheet.states(x), "20020");
        x.need(4, 3, true);
        Check.due("the earlier one is seen at once", x.control(4, 0), 2);
        Check.due("states of three", Sheet.states(x), "20022");
        x.control(3, NONE);
        Check.due("states of none", Sheet.states(x), "00000");
        x.need(0, 1, true);
        x.need(0, 3, false);
        Check.due("one need is left", x.state(0), STOPPED);
        x.need(0, 1, false);
        Check.due("no need is left", x.state(0), RUNNING);
        Check.due("a need that is none is none", x.need(0, 1, false), 1);
        x.demand(1, 1, 3);
        x.need(2, 1, true);
        x.control(2, 0);
        x.control(1, 0);
        Check.due("STARTING is not RUNNING", Sheet.states(x), "21000");
        Check.outside("need of 5", () -> x.need(5, 5, true));
        Check.outside("need of -1", () -> x.need(-1, 0, true));
        Check.outside("need for 5", () -> x.need(0, 5, true));
        Check.outside("need for -1", () -> x.need(0, -1, false));
        Check.illegal("need for itself", () -> x.need(2, 2, true));
        Check.illegal("no need for itself", () -> x.need(2, 2, false));
        Check.due("steps", x.steps(), 15);
    }

    private static void lie() {
        Daemonsheet x = new Daemonsheet();
        Sheet.set(x, 1, "l0");
        x.demand(0, 5, 0);
        Check.due("lie of one that is stopped", x.lie(0, 1000), 1);
        Check.due("told by one that is stopped", x.told(0), 0);
        Sheet.set(x, 0, "1");
        x.control(0, 0);
        Check.due("load", x.load(0), 5);
        Check.due("told", x.told(0), 1000);
        Check.due("value by what is told", x.value(1), 1000);
        Check.due("lie no more", x.lie(0, NONE), 2);
        Check.due("told then", x.told(0), 5);
        Check.due("value then", x.value(1), 5);
        x.lie(0, 0);
        Check.due("a lie of 0", x.told(0), 0);
        Check.due("load stays", x.load(0), 5);
        Check.due("a lie starts nothing anew", x.starts(0), 1);
        Check.outside("lie 5", () -> x.lie(5, 0));
        Check.outside("lie -1", () -> x.lie(-1, -2));
        Check.illegal("lie of 1001", () -> x.lie(0, 1001));
        Check.illegal("lie of -2", () -> x.lie(0, -2));
        Check.due("steps", x.steps(), 7);
    }

    private static void mend() {
        Daemonsheet x = Sheet.cutOne();
        Check.due("load of one that is cut", x.load(0), 0);
        Check.due("it stays cut", x.hold(2, 1), 1);
        Check.due("state behind a step", x.state(0), CUT);
        x.tick(3);
        Check.due("state behind ticks", x.state(0), CUT);
        Check.due("mend", x.mend(0), 2);
        Check.due("state", x.state(0), RUNNING);
        Check.refused("mend of one that runs", () -> x.mend(0));
        Check.refused("mend of one that is stopped", () -> x.mend(1));
        Check.outside("mend 5", () -> x.mend(5));
        Check.outside("mend -1", () -> x.mend(-1));
        Daemonsheet y = Sheet.cutOne();
        y.control(0, NONE);
        Check.due("it stays cut without control", y.state(0), CUT);
        Check.due("mend without control", y.mend(0), 1);
        Check.due("state then", y.state(0), STOPPED);
    }

    private static void tick() {
        Daemonsheet x = new Daemonsheet();
        Check.due("tick", x.tick(1), 1);
        Check.due("now", x.now(), 1);
        Check.due("tick 50", x.tick(50), 50);
        Check.due("now then", x.now(), 51);
        Check.due("steps", x.steps(), 2);
        Check.illegal("tick 0", () -> x.tick(0));
        Check.illegal("tick -1", () -> x.tick(-1));
        Check.illegal("tick 51", () -> x.tick(51));
        Check.illegal("tick of the least", () -> x.tick(Integer.MIN_VALUE));
        Check.illegal("tick of the greatest", () -> x.tick(Integer.MAX_VALUE));
        Check.due("now behind wrong ones", x.now(), 51);
        Sheet.set(x, 0, "1");
        x.demand(0, 1, 4);
        x.control(0, 0);
        Check.due("a start among the ticks", x.tick(6), 7);
        Check.due("state", x.state(0), RUNNING);
    }

    private static void tickToTheEnd() {
        Daemonsheet x = new Daemonsheet();
        Sheet.set(x, 0, "1");
        for (int i = 0; i < 39; i++) {
            x.tick(50);
        }
        x.undo();
        Check.due("now", x.now(), 1900);
        x.tick(50);
        Check.refused("a 41st step", () -> x.tick(50));
        while (x.steps() > 0) {
            x.undo();
        }
        for (int i = 0; i < 40; i++) {
            x.tick(50);
        }
        Check.due("the last tick", x.now(), 2000);
        Check.refused("behind the last tick", () -> x.tick(1));
        Check.illegal("no tick at the last tick", () -> x.tick(0));
        x.undo();
        x.tick(49);
        Check.refused("one behind the last tick", () -> x.tick(2));
        Check.due("now at the end", x.now(), 1999);
    }

    private static void undo() {
        Daemonsheet x = new Daemonsheet();
        Check.refused("undo of none", () -> x.undo());
        Sheet.set(x, 0, "r0");
        Sheet.set(x, 1, "c0+1");
        x.demand(0, 3, 2);
        x.control(0, 1);
        x.tick(2);
        x.read(0, 4);
        x.tick(2);
        Check.due("states", Sheet.states(x), "20000");
        Check.due("starts", x.starts(0), 1);
        Sheet.put(x, "l4");
        Check.due("undo", x.undo(), 6);
        Check.due("now", x.now(), 2);
        Check.due("states then", Sheet.states(x), "10000");
        Check.due("starts then", x.starts(0), 0);
        Check.due("the text stays", x.wipe(), 2);
        int work = x.work();
        Check.due("undo the reading", x.undo(), 5);
        Check.due("value", x.value(1), 1);
        Check.due("work goes back", x.work(), work - 2);
        Check.due("it is stale again", x.isStale(1), true);
        x.undo();
        Check.due("now at first", x.now(), 0);
        x.undo();
        x.undo();
        Check.due("undo the second formula", x.undo(), 1);
        Check.due("depth at first", x.depth(1), 0);
        Check.due("undo the first", x.undo(), 0);
        Check.due("work at first", x.work(), 0);
        Check.refused("undo of none then", () -> x.undo());
        Daemonsheet y = Sheet.cutOne();
        y.undo();
        Check.due("what was cut is cut no more", y.state(0), STOPPED);
        Check.due("what was told before stays", y.control(0, 2), 41);
        y.hold(2, 7);
        y.undo();
        Check.refused("what was held is held no more", () -> y.release(2));
    }

    /** All that was told and undone must be as if it had never been told. */
    private static void undoOfEachKind() {
        Daemonsheet x = new Daemonsheet();
        x.read(0, 1);
        Sheet.set(x, 1, "l1");
        Sheet.set(x, 2, "c1+r0");
        x.hold(0, 1);
        x.need(1, 0, true);
        x.demand(1, 7, 2);
        x.lie(1, 5);
        x.limit(1, 2);
        x.control(0, 0);
        x.control(1, 0);
        x.tick(2);
        Check.due("told before", x.told(1), 5);
        Check.due("load before", x.load(1), 6);
        while (x.steps() > 0) {
            x.undo();
        }
        Check.due("told by no steps", x.told(1), 0);
        Check.due("load by no steps", x.load(1), 0);
        Check.due("depth by no steps", x.depth(2), 0);
        Check.due("value by no steps", x.value(2), 0);
        Check.due("work by no steps", x.work(), 0);
        Sheet.set(x, 3, "1");
        Check.due("demand, delay, needs, limit and lie are none", x.control(1, 3), 2);
        Check.due("states", Sheet.states(x), "02000");
        Check.due("load", x.load(1), 0);
        x.demand(1, 9, 0);
        Check.due("load by the demand alone", x.load(1), 9);
        Check.due("told by the demand alone", x.told(1), 9);
        Sheet.set(x, 4, "r0");
        Check.due("the reading is 0", x.value(4), 0);
        Check.due("and was never told", x.isStale(4), true);
        Check.due("trial", x.trial(1), 1);
    }

    private static void fortySteps() {
        Daemonsheet x = Sheet.cutOne();
        Sheet.set(x, 3, "5");
        x.hold(3, 1);
        while (x.steps() < 40) {
            x.read(1, 2);
        }
        Check.refused("formula", () -> x.formula(0));
        Check.refused("hold", () -> x.hold(0, 0));
        Check.refused("release", () -> x.release(3));
        Check.refused("read", () -> x.read(0, 0));
        Check.refused("control", () -> x.control(0, 0));
        Check.refused("limit", () -> x.limit(0, 0));
        Check.refused("demand", () -> x.demand(0, 0, 0));
        Check.refused("need", () -> x.need(0, 1, true));
        Check.refused("lie", () -> x.lie(0, 0));
        Check.refused("mend", () -> x.mend(0));
        Check.refused("tick", () -> x.tick(1));
        Check.outside("formula 12", () -> x.formula(12));
        Check.outside("hold 12", () -> x.hold(12, 0));
        Check.illegal("hold at 1001", () -> x.hold(0, 1001));
        Check.outside("release 12", () -> x.release(12));
        Check.outside("read 5", () -> x.read(5, 0));
        Check.illegal("read 1001", () -> x.read(0, 1001));
        Check.outside("control 5", () -> x.control(5, 0));
        Check.outside("limit by 12", () -> x.limit(0, 12));
        Check.illegal("demand 1001", () -> x.demand(0, 1001, 0));
        Check.illegal("need itself", () -> x.need(0, 0, true));
        Check.illegal("lie 1001", () -> x.lie(0, 1001));
        Check.outside("mend 5", () -> x.mend(5));
        Check.illegal("tick 0", () -> x.tick(0));
        x.wipe();
        Check.illegal("no formula", () -> x.formula(0));
        Check.due("steps", x.steps(), 40);
        Check.due("value", x.value(3), 1);
        Check.due("undo of the 40th", x.undo(), 39);
        Check.due("a 40th", x.tick(1), 1);
    }

    private static void stepsAndNow() {
        Daemonsheet x = new Daemonsheet();
        x.read(0, 1);
        x.need(0, 1, true);
        Check.due("steps", x.steps(), 2);
        Check.illegal("a wrong one", () -> x.tick(0));
        Check.due("steps behind a wrong one", x.steps(), 2);
        Sheet.put(x, "1");
        x.fault();
        x.trial(0);
        x.valueAnew(0);
        Check.due("steps behind what is no step", x.steps(), 2);
        x.tick(7);
        x.tick(8);
        Check.due("now", x.now(), 15);
        Check.due("steps", x.steps(), 4);
        x.trial(0);
        Check.due("now behind a trial", x.now(), 15);
        x.undo();
        Check.due("now behind an undo", x.now(), 7);
    }

    private static void outsideCells(Daemonsheet x) {
        for (int cell : new int[] {-1, 12, Integer.MIN_VALUE, Integer.MAX_VALUE}) {
            Check.outside("value " + cell, () -> x.value(cell));
            Check.outside("valueAnew " + cell, () -> x.valueAnew(cell));
            Check.outside("worth " + cell, () -> x.worth(cell));
            Check.outside("depth " + cell, () -> x.depth(cell));
            Check.outside("isStale " + cell, () -> x.isStale(cell));
        }
        for (int service : new int[] {-1, 5, Integer.MIN_VALUE, Integer.MAX_VALUE}) {
            Check.outside("state " + service, () -> x.state(service));
            Check.outside("load " + service, () -> x.load(service));
            Check.outside("told " + service, () -> x.told(service));
            Check.outside("starts " + service, () -> x.starts(service));
            Check.outside("trial " + service, () -> x.trial(service));
            Check.outside("isLoop " + service, () -> x.isLoop(service));
        }
    }

    private static void value() {
        Daemonsheet x = new Daemonsheet();
        outsideCells(x);
        Sheet.set(x, 11, "c0+c1");
        Sheet.set(x, 0, "c1*2");
        Sheet.set(x, 1, "r0");
        x.read(0, 3);
        Check.due("value of the deepest", x.value(11), 9);
        Check.due("value between", x.value(0), 6);
        Check.due("value of the first", x.value(1), 3);
    }

    private static void valueAnew() {
        Daemonsheet x = Sheet.cutOne();
        Check.due("value", x.value(2), 1);
        Check.due("valueAnew", x.valueAnew(2), 1);
        Sheet.set(x, 3, "c2*2+r0");
        x.read(0, 5);
        x.tick(4);
        x.hold(2, 9);
        Check.due("valueAnew behind more", x.valueAnew(3), 23);
        Check.due("valueAnew of a held one", x.valueAnew(2), 9);
        x.undo();
        Check.due("valueAnew behind undo", x.valueAnew(3), 7);
        Check.due("it changes no value", x.value(3), 7);
        Check.due("nor now", x.now(), 4);
    }

    private static void worth() {
        Daemonsheet x = new Daemonsheet();
        Sheet.set(x, 0, "r0*2");
        Sheet.set(x, 1, "c0+1");
        x.read(0, 6);
        Check.due("worth", x.worth(1), 13);
        x.hold(0, -4);
        Check.due("worth of a held one", x.worth(0), 12);
        Check.due("worth of its reader", x.worth(1), -3);
        x.read(0, 7);
        Check.due("worth of a held one then", x.worth(0), 14);
        x.hold(1, 0);
        Check.due("worth goes by values", x.worth(1), -3);
        int work = x.work();
        x.worth(0);
        Check.due("worth is no work", x.work(), work);
    }

    private static void depth() {
        Daemonsheet x = new Daemonsheet();
        for (int i = 0; i < 11; i++) {
            Sheet.set(x, i, "c" + (i + 1));
        }
        for (int i = 0; i < 12; i++) {
            Check.due("depth in a row", x.depth(i), 11 - i);
        }
        Sheet.set(x, 11, "r0+l0");
        Check.due("depth by readings and loads", x.depth(11), 0);
        Sheet.set(x, 5, "1");
        Check.due("depth in front of the gap", x.depth(0), 5);
        Check.due("depth behind the gap", x.depth(6), 5);
        Sheet.set(x, 0, "c5+c6");
        Check.due("depth by the greater one", x.depth(0), 6);
        x.hold(6, 1);
        Check.due("depth over a held one", x.depth(0), 6);
    }

    private static void isStale() {
        Daemonsheet x = new Daemonsheet();
        Sheet.set(x, 0, "r0");
        Sheet.set(x, 1, "c0");
        Sheet.set(x, 2, "r1");
        Sheet.set(x, 3, "i(0,r2,1)");
        Check.due("never told", x.isStale(0), true);
        Check.due("over a cell", x.isStale(1), true);
        Check.due("in a branch that is not taken", x.isStale(3), true);
        Check.due("without readings", x.isStale(4), false);
        x.read(0, 0);
        Check.due("told the value that it had", x.isStale(0), false);
        Check.due("its reader", x.isStale(1), false);
        Check.due("another one", x.isStale(2), true);
        x.tick(10);
        Check.due("10 ticks behind", x.isStale(1), false);
        x.tick(1);
        Check.due("11 ticks behind", x.isStale(1), true);
        x.hold(0, 2);
        Check.due("held", x.isStale(0), false);
        Check.due("over a held one", x.isStale(1), false);
        x.release(0);
        Check.due("held no more", x.isStale(1), true);
        x.read(0, 0);
        x.tick(10);
        Check.due("told anew", x.isStale(1), false);
        staleStartsNothing();
    }

    private static void staleStartsNothing() {
        Daemonsheet x = new Daemonsheet();
        Sheet.set(x, 0, "r0+1");
        x.demand(0, 2, 0);
        Check.due("control by a stale one", x.control(0, 0), 1);
        Check.due("it starts nothing", x.state(0), STOPPED);
        Check.due("told the same", x.read(0, 0), 2);
        Check.due("it starts", x.state(0), RUNNING);
        x.tick(30);
        Check.due("what runs goes on", x.state(0), RUNNING);
        x.demand(1, 2, 10);
        x.read(0, 0);
        x.tick(5);
        x.control(1, 0);
        x.tick(9);
        Check.due("it is stale", x.isStale(0), true);
        Check.due("what starts goes on", x.state(1), STARTING);
        x.tick(1);
        Check.due("and runs", x.state(1), RUNNING);
        x.control(1, NONE);
        x.control(1, 0);
        Check.due("not again", x.state(1), STOPPED);
        x.hold(0, 1);
        Check.due("a held one starts it", x.state(1), STARTING);
        Daemonsheet y = new Daemonsheet();
        Sheet.set(y, 0, "1");
        Sheet.set(y, 1, "r0+3");
        y.demand(0, 9, 0);
        y.limit(0, 1);
        y.control(0, 0);
        Check.due("a stale limit stops nothing", y.state(0), RUNNING);
        Check.due("and limits", y.load(0), 3);
    }

    private static void work() {
        Daemonsheet x = new Daemonsheet();
        Sheet.set(x, 2, "c1+c0");
        Sheet.set(x, 1, "c0>5");
        Sheet.set(x, 0, "r0");
        Check.due("work by formulas", x.work(), 3);
        x.read(0, 3);
        Check.due("each once: a cell, and two that read it", x.work(), 6);
        x.read(0, 9);
        Check.due("the deepest once, though both became other ones", x.work(), 9);
        x.read(0, 9);
        Check.due("nothing became another one", x.work(), 9);
        Sheet.set(x, 3, "c1");
        x.read(0, 8);
        Check.due("a value that stays goes no further", x.work(), 13);
        x.formula(3);
        Check.due("the same formula is work", x.work(), 14);
        x.tick(20);
        Check.due("ticks are no work", x.work(), 14);
        x.trial(0);
        x.valueAnew(0);
        Check.due("questions are no work", x.work(), 14);
        x.undo();
        x.undo();
        Check.due("undone work is none", x.work(), 13);
        Check.due("work up to a cut", Sheet.cutOne().work(), 41);
    }

    private static void state() {
        Daemonsheet x = new Daemonsheet();
        Sheet.set(x, 0, "r0");
        x.demand(0, 1, 1);
        x.control(0, 0);
        Check.due("not wanted", x.state(0), STOPPED);
        x.read(0, 1);
        Check.due("wanted", x.state(0), STARTING);
        x.tick(1);
        Check.due("delay passed", x.state(0), RUNNING);
        x.read(0, 0);
        Check.due("not wanted any more", x.state(0), STOPPED);
        x.read(0, 1);
        x.read(0, -1);
        Check.due("not wanted while it starts", x.state(0), STOPPED);
    }

    private static void delays() {
        Daemonsheet x = new Daemonsheet();
        Sheet.set(x, 0, "1");
        x.demand(0, 6, 3);
        x.tick(5);
        x.control(0, 0);
        x.demand(0, 7, 0);
        Check.due("a delay set later is for later", x.state(0), STARTING);
        x.tick(2);
        Check.due("2 of 3", x.state(0), STARTING);
        Check.due("told while it starts", x.told(0), 0);
        x.demand(0, 7, 9);
        Check.due("the third", x.tick(1), 2);
        Check.due("3 of 3", x.state(0), RUNNING);
        Check.due("load", x.load(0), 7);
        x.control(0, NONE);
        x.control(0, 0);
        Check.due("8 of 9", x.tick(8), 8);
        Check.due("state", x.state(0), STARTING);
        x.control(0, NONE);
        x.control(0, 0);
        x.tick(8);
        Check.due("a start anew counts anew", x.state(0), STARTING);
        x.tick(1);
        Check.due("9 of 9", x.state(0), RUNNING);
        x.demand(1, 2, 2);
        x.need(1, 2, true);
        x.demand(2, 2, 2);
        x.control(1, 0);
        x.control(2, 0);
        Check.due("one behind the other", x.tick(5), 8);
        Check.due("both run", Sheet.states(x), "22200");
    }

    private static void loadAndTold() {
        Daemonsheet x = new Daemonsheet();
        Sheet.set(x, 0, "1");
        Sheet.set(x, 1, "l0+1");
        x.demand(0, 5, 0);
        x.limit(0, 1);
        Check.due("a load that goes up by ones", x.control(0, 0), 6);
        Check.due("load", x.load(0), 5);
        Check.due("told", x.told(0), 5);
        x.lie(0, 1);
        Check.due("load by its own lie", x.load(0), 2);
        Check.due("told then", x.told(0), 1);
        x.hold(0, 0);
        Check.due("load when stopped", x.load(0), 0);
        Check.due("told when stopped", x.told(0), 0);
    }

    private static void starts() {
        Daemonsheet x = new Daemonsheet();
        Sheet.set(x, 0, "1");
        x.demand(0, 1, 1);
        x.control(0, 0);
        Check.due("STARTING is no start", x.starts(0), 0);
        x.tick(1);
        Check.due("one", x.starts(0), 1);
        x.tick(5);
        Check.due("it goes on", x.starts(0), 1);
        x.demand(0, 1, 0);
        x.hold(0, 0);
        x.hold(0, 1);
        Check.due("two", x.starts(0), 2);
        x.undo();
        Check.due("one again", x.starts(0), 1);
        Check.due("up to a cut", Sheet.cutOne().starts(0), 20);
    }

    /** Service 0 changes in as many rounds as its demand, service 1 in each one. */
    private static Daemonsheet twoThatChange(int demand) {
        Daemonsheet x = new Daemonsheet();
        Sheet.set(x, 0, "1");
        Sheet.set(x, 1, "l0+1");
        Sheet.set(x, 2, "1-l1");
        x.demand(0, demand, 0);
        x.limit(0, 1);
        x.demand(1, 1, 0);
        x.need(1, 0, true);
        x.control(1, 2);
        return x;
    }

    private static void cutOfTheLateOnes() {
        Daemonsheet x = twoThatChange(28);
        Check.due("28 rounds are early", x.control(0, 0), 41);
        Check.due("the other one is cut", Sheet.states(x), "23000");
        x = twoThatChange(29);
        Check.due("29 rounds are late", x.control(0, 0), 41);
        Check.due("the lowest one is cut", Sheet.states(x), "30000");
        Check.due("what is cut tells 0", x.value(1), 1);
        x = new Daemonsheet();
        Sheet.set(x, 0, "1");
        Sheet.set(x, 1, "l0+1");
        x.limit(0, 1);
        x.demand(0, 39, 0);
        Check.due("39 rounds and a quiet one", x.control(0, 0), 40);
        Check.due("it runs", x.state(0), RUNNING);
        x.undo();
        x.demand(0, 40, 0);
        Check.due("40 rounds", x.control(0, 0), 41);
        Check.due("it is cut", x.state(0), CUT);
        Check.due("told at once", x.told(0), 0);
        Check.due("dirty at once", x.value(1), 1);
        x.undo();
        x.undo();
        x.demand(0, 35, 0);
        x.control(0, 0);
        Sheet.set(x, 2, "1-l1");
        x.demand(1, 1, 0);
        Check.due("changes of an earlier step are none of this one", x.control(1, 2), 41);
        Check.due("the second is cut", Sheet.states(x), "23000");
    }

    private static void cutOneByOne() {
        Daemonsheet x = new Daemonsheet();
        Sheet.set(x, 0, "0");
        for (int i = 0; i < 5; i++) {
            Sheet.set(x, i + 1, "c0-l" + i);
            x.demand(i, 1, 0);
            x.control(i, i + 1);
        }
        Sheet.put(x, "1");
        Check.due("rounds of five cuts", x.formula(0), 201);
        Check.due("all are cut", Sheet.states(x), "33333");
        Check.due("starts of the first", x.starts(0), 20);
        Check.due("starts of the last", x.starts(4), 100);
        Check.due("load of the last", x.load(4), 0);
        x.undo();
        Check.due("none is cut", Sheet.states(x), "00000");
    }

    private static void trial() {
        Daemonsheet x = new Daemonsheet();
        Sheet.set(x, 0, "1");
        x.demand(0, 1, 0);
        x.control(0, 0);
        Check.due("the first settling counts", x.trial(0), 1);
        x.tick(50);
        Check.due("in later ticks, too", x.trial(0), 1);
        x.demand(0, 1, 10);
        Check.due("a delay that ends in the 24 ticks", x.trial(0), 1);
        Check.due("starts are others", x.starts(0), 1);
        x.control(0, NONE);
        Check.due("none controls it", x.trial(0), 0);
        x.hold(5, 3);
        x.control(0, 5);
        Check.due("a held one controls it", x.trial(0), 1);
        Check.due("its state stays", x.state(0), STARTING);
        x.need(0, 1, true);
        Check.due("a need that does not run", x.trial(0), 0);
        x.control(1, 5);
        Check.due("a need that runs", x.trial(0), 1);
        Check.due("trial of the need", x.trial(1), 1);
        Daemonsheet y = Sheet.cutOne();
        Check.due("what is cut is tried", y.trial(0), 20);
        Check.due("and stays cut", y.state(0), CUT);
        y.lie(0, 0);
        Check.due("with its lie", y.trial(0), 1);
        y.lie(0, NONE);
        Sheet.set(y, 3, "0-1");
        y.limit(0, 3);
        Check.due("with its limit", y.trial(0), 1);
        Daemonsheet z = new Daemonsheet();
        Sheet.set(z, 0, "1");
        z.demand(0, 1, 10);
        z.control(0, 0);
        z.tick(9);
        Check.due("from 0 on, before its delay ends", z.trial(0), 0);
        z.tick(1);
        Check.due("from 0 on, when its delay ends", z.trial(0), 1);
    }

    private static void trialOfHeldAndDeep() {
        Daemonsheet x = new Daemonsheet();
        x.read(0, 1);
        Sheet.set(x, 0, "r0");
        x.control(0, 0);
        x.demand(0, 1, 0);
        x.tick(1);
        Check.due("a reading that is the first step", x.trial(0), 1);
        x.tick(30);
        Check.due("told too early", x.trial(0), 0);
        x.hold(0, 2);
        Check.due("held, its formula is not stale", x.trial(0), 1);
        x.hold(0, 0);
        Check.due("held at 0", x.trial(0), 0);
        Daemonsheet y = new Daemonsheet();
        Sheet.set(y, 2, "7");
        Sheet.set(y, 1, "c2");
        Sheet.set(y, 0, "c1=0");
        y.control(0, 0);
        Check.due("cells are worked out by depth", y.trial(0), 0);
    }

    private static void trialOfReadings() {
        Daemonsheet x = new Daemonsheet();
        Sheet.set(x, 0, "r0");
        x.demand(0, 1, 0);
        x.control(0, 0);
        x.read(0, 1);
        x.read(0, 0);
        x.read(0, 2);
        Check.due("two starts in one tick", x.trial(0), 2);
        x.tick(23);
        Check.due("the first of 24 ticks", x.trial(0), 2);
        x.tick(1);
        Check.due("before the first of 24 ticks", x.trial(0), 0);
        Check.due("it runs all the same", x.state(0), RUNNING);
        x.read(0, 3);
        Check.due("told in the last tick", x.trial(0), 1);
        Sheet.set(x, 0, "r0>2");
        Check.due("by the formula of now", x.trial(0), 1);
        Sheet.set(x, 0, "r0>3");
        Check.due("by another formula of now", x.trial(0), 0);
        Sheet.set(x, 0, "r0+r1+1");
        Check.due("stale ones start nothing", x.trial(0), 0);
        x.tick(3);
        x.read(1, 1);
        Check.due("both are told", x.trial(0), 1);
        x.undo();
        Check.due("what is undone is not told", x.trial(0), 0);
        x.tick(8);
        x.read(1, 1);
        Check.due("one is stale when the other is told", x.trial(0), 0);
        x.undo();
        x.undo();
        x.tick(7);
        x.read(1, 1);
        Check.due("in the 10th tick behind it is not stale", x.trial(0), 1);
    }

    private static void isLoop() {
        Daemonsheet x = new Daemonsheet();
        Sheet.set(x, 0, "l0");
        Check.due("a cell that nothing uses", x.isLoop(0), false);
        x.limit(0, 0);
        Check.due("by its limit", x.isLoop(0), true);
        x.limit(0, NONE);
        x.control(0, 0);
        Check.due("by its control", x.isLoop(0), true);
        x.hold(0, 1);
        Check.due("a held cell reads all the same", x.isLoop(0), true);
        Sheet.set(x, 0, "1");
        Check.due("no more", x.isLoop(0), false);
        Sheet.set(x, 1, "c2");
        Sheet.set(x, 2, "c3*0");
        Sheet.set(x, 3, "l0");
        x.control(0, 1);
        Check.due("over cells", x.isLoop(0), true);
        Sheet.set(x, 3, "l1");
        Check.due("another load", x.isLoop(0), false);
        x.need(1, 2, true);
        x.need(2, 3, true);
        x.need(3, 4, true);
        Check.due("over four, not yet", x.isLoop(0), false);
        x.need(4, 0, true);
        for (int i = 0; i < 5; i++) {
            Check.due("over five", x.isLoop(i), true);
        }
        x.need(3, 4, false);
        for (int i = 0; i < 5; i++) {
            Check.due("broken", x.isLoop(i), false);
        }
        x.need(3, 1, true);
        Check.due("what leads to a loop is none", x.isLoop(0), false);
        Check.due("what hangs on what leads to it is none", x.isLoop(4), false);
        Check.due("one in the loop", x.isLoop(1), true);
        Check.due("two in the loop", x.isLoop(2), true);
        Check.due("three in the loop", x.isLoop(3), true);
    }
}
