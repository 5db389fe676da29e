/** Promises 1 to 4: a new object, and the text. */
final class TextSentences {
    private static final int NONE = Daemonsheet.NONE;
    private static final String LETTERS = "0123456789crlmni+-*<>=(),";
    private static final String FULL = "1+1+1+1+1+1+1+1+1+1+1+1+1+1+11";

    private TextSentences() {
    }

    private static Daemonsheet withText(String text) {
        Daemonsheet x = new Daemonsheet();
        Sheet.put(x, text);
        return x;
    }

    // ---- promise 1

    @Sentence(promise = 1, says = "Creates a table as told;")
    static void p01_asToldAtFirst() {
        Daemonsheet x = new Daemonsheet();
        Check.due("steps", x.steps(), 0);
        Check.due("now", x.now(), 0);
        Check.due("work", x.work(), 0);
        Check.due("states", Sheet.states(x), "00000");
        for (int i = 0; i < 12; i++) {
            Check.due("value", x.value(i) + x.valueAnew(i) + x.worth(i) + x.depth(i), 0);
            Check.due("isStale", x.isStale(i), false);
        }
        for (int i = 0; i < 5; i++) {
            Check.due("loads and starts", x.load(i) + x.told(i) + x.starts(i) + x.trial(i), 0);
            Check.due("isLoop", x.isLoop(i), false);
        }
        Daemonsheet other = Sheet.busy();
        Check.due("one more has its own cells", x.value(1), 0);
        Check.due("and steps", x.steps(), 0);
        Check.due("the other one", other.value(1), 1);
    }

    @Sentence(promise = 1, says = "the text is empty.")
    static void p01_noText() {
        Daemonsheet x = new Daemonsheet();
        Check.due("fault", x.fault(), 0);
        Check.illegal("formula", () -> x.formula(0));
        Check.due("wipe", x.wipe(), 0);
        Check.due("the first letter", x.type('1'), 1);
    }

    // ---- promise 2

    @Sentence(promise = 2, says = "Types a letter behind the text.")
    static void p02_behindTheText() {
        Daemonsheet x = withText("12-3");
        x.type('4');
        x.formula(0);
        Check.due("12-34", x.value(0), -22);
    }

    @Sentence(promise = 2, says = "- `letter`: a figure, or one of c r l m n i + - * < > = ( ) and "
            + "the comma")
    static void p02_eachLetter() {
        Daemonsheet x = new Daemonsheet();
        for (int i = 0; i < LETTERS.length(); i++) {
            Check.due("type " + LETTERS.charAt(i), x.type(LETTERS.charAt(i)), i + 1);
        }
    }

    @Sentence(promise = 2, says = "Returns how many letters it has then.")
    static void p02_howManyLetters() {
        Daemonsheet x = new Daemonsheet();
        for (int i = 1; i <= 30; i++) {
            Check.due("letter " + i, x.type('('), i);
        }
        x.wipe();
        Check.due("behind wipe", x.type('('), 1);
    }

    @Sentence(promise = 2, says = "Throws `IllegalArgumentException` if letter is none of these")
    static void p02_otherLetters() {
        for (int letter = 0; letter <= Character.MAX_VALUE; letter++) {
            char other = (char) letter;
            if (LETTERS.indexOf(other) < 0) {
                Daemonsheet x = new Daemonsheet();
                Check.illegal("type of the letter " + letter, () -> x.type(other));
                Check.due("letters behind it", x.wipe(), 0);
            }
        }
    }

    @Sentence(promise = 2, says = "Throws `IllegalStateException` if it has 30 letters")
    static void p02_thirtyLetters() {
        Daemonsheet x = withText(FULL.substring(0, 29));
        Check.due("the 30th", x.type('1'), 30);
        Check.refused("the 31st", () -> x.type('1'));
        Check.refused("the 31st again", () -> x.type('('));
        Check.due("wipe", x.wipe(), 30);
        Check.due("the first", x.type('1'), 1);
    }

    @Sentence(promise = 2, ahead = true, says = "A call that throws an exception changes nothing;")
    static void p02_changesNothing() {
        Daemonsheet x = withText(FULL);
        Check.refused("a 31st letter", () -> x.type('2'));
        Check.illegal("no letter", () -> x.type('a'));
        Check.due("fault", x.fault(), NONE);
        x.formula(0);
        Check.due("value", x.value(0), 25);
        Sheet.changesNothing(Sheet.busy(), Sheet.busy(), y -> y.type('C'), y -> y.type(' '),
                y -> y.type((char) 0), y -> y.type((char) 0x660));
    }

    @Sentence(promise = 2, ahead = true, says = "if several exceptions apply, the one that its "
            + "throws clause names first is thrown.")
    static void p02_illegalFirst() {
        Daemonsheet x = withText(FULL);
        Check.illegal("no letter, as the 31st", () -> x.type('a'));
        Check.refused("a letter, as the 31st", () -> x.type('1'));
    }

    // ---- promise 3

    @Sentence(promise = 3, says = "Empties the text.")
    static void p03_empties() {
        Daemonsheet x = withText("1+");
        x.wipe();
        Check.due("fault", x.fault(), 0);
        x.type('7');
        Check.due("fault of 7", x.fault(), NONE);
        x.formula(0);
        x.wipe();
        Check.due("what was told stays", x.value(0), 7);
        Check.due("it is no step", x.steps(), 1);
        Check.due("with 40 steps kept", Sheet.full().wipe(), 1);
    }

    @Sentence(promise = 3, says = "Returns how many letters it had.")
    static void p03_howManyLetters() {
        Daemonsheet x = new Daemonsheet();
        Check.due("none", x.wipe(), 0);
        x.type('c');
        Check.due("one", x.wipe(), 1);
        Check.due("none again", x.wipe(), 0);
        Check.due("30", withText(FULL).wipe(), 30);
    }

    // ---- promise 4

    @Sentence(promise = 4, says = "Returns the fault of the text.")
    static void p04_fault() {
        Daemonsheet x = new Daemonsheet();
        Check.due("no text", x.fault(), 0);
        x.type('1');
        Check.due("a formula", x.fault(), NONE);
        Check.due("asked again", x.fault(), NONE);
        x.type('c');
        Check.due("1c", x.fault(), 1);
        x.type('1');
        Check.due("1c1", x.fault(), 1);
        Check.due("the text stays", x.wipe(), 3);
        Daemonsheet y = withText("c0");
        Check.due("a cell that would hang on itself is no fault", y.fault(), NONE);
        Check.refused("but a formula that is refused", () -> y.formula(0));
        Check.due("with 40 steps kept", Sheet.full().fault(), NONE);
    }
}
