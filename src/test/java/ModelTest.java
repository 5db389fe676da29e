import java.util.Random;

/** Holds the program against the model over many runs of calls, the same ones each time. */
public final class ModelTest {
    private static final int RUNS = 4000;
    // An object is good for 512 calls: a formula takes up to 33, and the last look at all 102.
    private static final int CALLS = 370;
    private static final int QUESTIONS = 14;

    private final Random random;
    private final int run;
    private final Daemonsheet sheet = new Daemonsheet();
    private final Model model = new Model();
    private final StringBuilder story = new StringBuilder();
    private boolean wrong = false;
    private int calls = 0;

    interface Answer {
        long give();
    }

    private ModelTest(int run) {
        this.run = run;
        this.random = new Random(run * 7919L + 1);
    }

    public static void main(String[] args) {
        int runs = args.length > 0 ? Integer.parseInt(args[0]) : RUNS;
        int first = args.length > 1 ? Integer.parseInt(args[1]) : 0;
        for (int run = first; run < first + runs; run++) {
            ModelTest test = new ModelTest(run);
            test.go();
            Check.due("run " + run, test.wrong, false);
        }
        for (int i = 0; i < 200000; i++) {
            checkFault(new Random(i));
        }
        Check.end();
    }

    // ---- texts

    private static void checkFault(Random random) {
        Daemonsheet sheet = new Daemonsheet();
        String text = bent(random, expression(random, random.nextInt(4)));
        for (int i = 0; i < text.length() && i < 30; i++) {
            sheet.type(text.charAt(i));
        }
        String typed = text.length() > 30 ? text.substring(0, 30) : text;
        Check.due("fault of " + typed, sheet.fault(), Model.faultOf(typed));
    }

    private static String bent(Random random, String text) {
        StringBuilder bent = new StringBuilder(text);
        String letters = "0123456789crlmni+-*<>=(),";
        for (int times = random.nextInt(3); times > 0; times--) {
            int place = random.nextInt(bent.length() + 1);
            if (random.nextBoolean()) {
                bent.insert(place, letters.charAt(random.nextInt(letters.length())));
            } else if (place < bent.length()) {
                bent.deleteCharAt(place);
            }
        }
        return bent.toString();
    }

    private static String expression(Random random, int depth) {
        int kind = random.nextInt(depth <= 0 ? 6 : 14);
        switch (kind) {
            case 0:
                return String.valueOf(random.nextInt(10000));
            case 1:
                return String.valueOf(random.nextInt(12));
            case 2:
                return "c" + random.nextInt(12);
            case 3:
                return "r" + random.nextInt(5);
            case 4:
            case 5:
                return "l" + random.nextInt(5);
            case 6:
                return "-" + expression(random, depth - 1);
            case 7:
                return "(" + expression(random, depth - 1) + ")";
            case 8:
                return (random.nextBoolean() ? "m(" : "n(") + expression(random, depth - 1) + ","
                        + expression(random, depth - 1) + ")";
            case 9:
                return "i(" + expression(random, depth - 1) + "," + expression(random, depth - 1)
                        + "," + expression(random, depth - 1) + ")";
            case 10:
                return expression(random, depth - 1) + "<>=".charAt(random.nextInt(3))
                        + expression(random, depth - 1);
            default:
                return expression(random, depth - 1) + "+-*".charAt(random.nextInt(3))
                        + expression(random, depth - 1);
        }
    }

    /** Texts that make services go, among others. */
    private String someText() {
        int service = random.nextInt(5);
        switch (random.nextInt(9)) {
            case 0:
                return "1";
            case 1:
                return random.nextInt(40) + "-l" + service;
            case 2:
                return "l" + service + "+1";
            case 3:
                return "l" + service + "<" + random.nextInt(30);
            case 4:
                return "r" + random.nextInt(5) + ">" + random.nextInt(4);
            case 5:
                return "c" + random.nextInt(12) + "+" + random.nextInt(3);
            case 6:
                return bent(random, expression(random, 2));
            default:
                return expression(random, 1 + random.nextInt(2));
        }
    }

    // ---- calls

    private void same(String call, Answer mine, Answer due) {
        calls++;
        story.append(call).append("; ");
        String got = outcome(mine);
        String want = outcome(due);
        if (!got.equals(want) && !wrong) {
            wrong = true;
            System.out.println("run " + run + ": " + story);
            System.out.println("  answered " + got + ", the model " + want);
        }
    }

    private static String outcome(Answer answer) {
        try {
            return String.valueOf(answer.give());
        } catch (RuntimeException e) {
            return e.getClass().getSimpleName();
        }
    }

    private void go() {
        while (calls < CALLS && !wrong) {
            makeSomeCall();
            for (int asked = random.nextInt(15); asked > 0 && calls < CALLS; asked--) {
                ask(random.nextInt(QUESTIONS), some(12), some(5));
            }
        }
        askAll();
    }

    private int some(int count) {
        // Now and then one that is not there.
        return random.nextInt(60) == 0 ? (random.nextBoolean() ? -1 - random.nextInt(2) : count)
                : random.nextInt(count);
    }

    private int oneOrNone(int count) {
        return random.nextInt(6) == 0 ? -1 : some(count);
    }

    private int number(int least, int most) {
        if (random.nextInt(60) == 0) {
            return random.nextBoolean() ? least - 1 : most + 1;
        }
        return random.nextInt(8) == 0 ? least + random.nextInt(most - least + 1)
                : Math.max(least, Math.min(most, random.nextInt(9) - 2));
    }

    private void makeSomeCall() {
        int s = some(5);
        int o = some(5);
        int c = some(12);
        int n = oneOrNone(12);
        int r = some(5);
        int v = number(-1000, 1000);
        int d = random.nextInt(3) == 0 ? random.nextInt(60) : number(0, 1000);
        int w = random.nextInt(2) == 0 ? 0 : number(0, 10);
        switch (random.nextInt(17)) {
            case 0:
            case 1:
            case 2:
                typeSomeText();
                same("formula " + c, () -> sheet.formula(c), () -> model.formula(c));
                break;
            case 3:
                same("hold " + c + " " + v, () -> sheet.hold(c, v), () -> model.hold(c, v));
                break;
            case 4:
                same("release " + c, () -> sheet.release(c), () -> model.release(c));
                break;
            case 5:
            case 6:
                same("read " + r + " " + v, () -> sheet.read(r, v), () -> model.read(r, v));
                break;
            case 7:
            case 8:
                same("control " + s + " " + n, () -> sheet.control(s, n), () -> model.control(s, n));
                break;
            case 9:
                same("limit " + s + " " + n, () -> sheet.limit(s, n), () -> model.limit(s, n));
                break;
            case 10:
            case 11:
                same("demand " + s + " " + d + " " + w,
                        () -> sheet.demand(s, d, w), () -> model.demand(s, d, w));
                break;
            case 12:
                boolean needs = random.nextInt(3) > 0;
                same("need " + s + " " + o + " " + needs,
                        () -> sheet.need(s, o, needs), () -> model.need(s, o, needs));
                break;
            case 13:
                same("lie " + s + " " + v, () -> sheet.lie(s, v), () -> model.lie(s, v));
                break;
            case 14:
                same("mend " + s, () -> sheet.mend(s), () -> model.mend(s));
                break;
            case 15:
                int t = random.nextInt(3) == 0 ? number(1, 50) : 1 + random.nextInt(5);
                same("tick " + t, () -> sheet.tick(t), () -> model.tick(t));
                break;
            default:
                same("undo", () -> sheet.undo(), () -> model.undo());
                break;
        }
    }

    private void typeSomeText() {
        if (random.nextInt(20) > 0) {
            same("wipe", () -> sheet.wipe(), () -> model.wipe());
        }
        String text = someText();
        for (int i = 0; i < text.length(); i++) {
            char letter = text.charAt(i);
            same("type " + letter, () -> sheet.type(letter), () -> model.type(letter));
        }
        same("fault", () -> sheet.fault(), () -> model.fault());
    }

    private void ask(int question, int c, int s) {
        switch (question) {
            case 0:
                same("value " + c, () -> sheet.value(c), () -> model.value(c));
                break;
            case 1:
                same("worth " + c, () -> sheet.worth(c), () -> model.worth(c));
                break;
            case 2:
                same("depth " + c, () -> sheet.depth(c), () -> model.depth(c));
                break;
            case 3:
                same("isStale " + c, () -> sheet.isStale(c) ? 1 : 0, () -> model.isStale(c));
                break;
            case 4:
                same("state " + s, () -> sheet.state(s), () -> model.ofService(model.world.state, s));
                break;
            case 5:
                same("load " + s, () -> sheet.load(s), () -> model.ofService(model.world.load, s));
                break;
            case 6:
                same("told " + s, () -> sheet.told(s), () -> model.ofService(model.world.told, s));
                break;
            case 7:
                same("starts " + s, () -> sheet.starts(s), () -> model.ofService(model.world.starts, s));
                break;
            case 8:
                same("isLoop " + s, () -> sheet.isLoop(s) ? 1 : 0, () -> model.isLoop(s));
                break;
            case 9:
                same("trial " + s, () -> sheet.trial(s), () -> model.trial(s));
                break;
            case 10:
                same("steps", () -> sheet.steps(), () -> model.steps.size());
                break;
            case 11:
                same("now", () -> sheet.now(), () -> model.world.now);
                break;
            case 12:
                same("work", () -> sheet.work(), () -> model.world.work);
                break;
            default:
                same("valueAnew " + c, () -> sheet.valueAnew(c), () -> model.valueAnew(c));
                break;
        }
    }

    private void askAll() {
        for (int place = -1; place <= 12; place++) {
            for (int question = 0; question < (place <= 5 ? 10 : 4); question++) {
                ask(question, place, place);
            }
        }
        for (int question = 10; question < QUESTIONS; question++) {
            ask(question, random.nextInt(12), 0);
        }
    }
}
