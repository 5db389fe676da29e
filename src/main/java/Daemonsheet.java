import java.util.Arrays;

/**
 * A table of cells and a table of services in one. The document DOC.md says, promise by promise,
 * what each call does.
 */
public final class Daemonsheet {
    public static final int NONE = -1;
    public static final int STOPPED = 0, STARTING = 1, RUNNING = 2, CUT = 3;

    private static final int CELLS = 12;
    private static final int READINGS = 5;
    private static final int SERVICES = 5;
    private static final int MOST_LETTERS = 30;
    private static final int MOST_STEPS = 40;
    private static final int MOST_TOLD = 1000;
    private static final int MOST_DELAY = 10;
    private static final int MOST_TICKS = 50;
    private static final int LAST_TICK = 2000;
    private static final int MOST_WORTH = 1000000;
    private static final int FRESH_TICKS = 10;
    private static final int ROUNDS_BEFORE_CUT = 40;
    private static final int LATE_ROUNDS = 12;
    private static final int TRIAL_TICKS = 24;

    // What a formula reads is one mask of bits: cells first, then readings, then services.
    private static final int FIRST_READING = CELLS;
    private static final int FIRST_SERVICE = CELLS + READINGS;
    private static final int ALL_CELLS = (1 << CELLS) - 1;

    // A formula's code is its tokens, operands first; a token is a number above OP_BITS bits of op.
    private static final int OP_BITS = 4;
    private static final int OP_MASK = (1 << OP_BITS) - 1;
    private static final int PUT_NUMBER = 0, PUT_CELL = 1, PUT_READING = 2, PUT_LOAD = 3;
    private static final int NEGATE = 4, ADD = 5, SUBTRACT = 6, MULTIPLY = 7;
    private static final int IS_LESS = 8, IS_GREATER = 9, IS_EQUAL = 10;
    private static final int GREATER_OF = 11, LESSER_OF = 12, CHOOSE = 13;
    private static final int[] OPERANDS = {0, 0, 0, 0, 1, 2, 2, 2, 2, 2, 2, 2, 2, 3};

    private static final int FORMULA = 0, HOLD = 1, RELEASE = 2, READ = 3, CONTROL = 4, LIMIT = 5;
    private static final int DEMAND = 6, NEED = 7, LIE = 8, MEND = 9, TICK = 10;

    private static final char NO_LETTER = (char) 0;

    private final Text text = new Text();
    private final Parser parser = new Parser(text);
    private final Table table = new Table();
    private final Table spare = new Table();
    private final Step[] kept = new Step[MOST_STEPS];
    private int keptCount = 0;
    // Passed in trials alone, and never kept.
    private final Step oneTick = new Step(TICK, 1, 0, 0, null, NONE);

    public Daemonsheet() {
    }

    // ---- the text

    public int type(char letter) throws IllegalArgumentException, IllegalStateException {
        if (!isFigure(letter) && "crlmni+-*<>=(),".indexOf(letter) < 0) {
            throw new IllegalArgumentException("no letter of formulas");
        }
        if (text.isFull()) {
            throw new IllegalStateException("the text is full");
        }
        text.add(letter);
        return text.length;
    }

    public int wipe() {
        int had = text.length;
        text.length = 0;
        return had;
    }

    public int fault() {
        return parser.findFault();
    }

    // ---- steps

    public int formula(int cell)
            throws IndexOutOfBoundsException, IllegalArgumentException, IllegalStateException {
        checkCell(cell);
        if (parser.findFault() != NONE) {
            throw new IllegalArgumentException("the text is no formula");
        }
        Formula formula = parser.makeFormula();
        if (has(table.withAllRead(formula.reads), cell)) {
            throw new IllegalStateException("the cell would hang on itself");
        }
        return keep(FORMULA, cell, 0, 0, formula);
    }

    public int hold(int cell, int value)
            throws IndexOutOfBoundsException, IllegalArgumentException, IllegalStateException {
        checkCell(cell);
        checkNumber(value, -MOST_TOLD, MOST_TOLD);
        return keep(HOLD, cell, value, 0, null);
    }

    public int release(int cell) throws IndexOutOfBoundsException, IllegalStateException {
        checkCell(cell);
        if (!table.cells[cell].held) {
            throw new IllegalStateException("the cell is not held");
        }
        return keep(RELEASE, cell, 0, 0, null);
    }

    public int read(int reading, int value)
            throws IndexOutOfBoundsException, IllegalArgumentException, IllegalStateException {
        checkPlace(reading, READINGS);
        checkNumber(value, -MOST_TOLD, MOST_TOLD);
        return keep(READ, reading, value, 0, null);
    }

    public int control(int service, int cell)
            throws IndexOutOfBoundsException, IllegalStateException {
        checkService(service);
        checkCellOrNone(cell);
        return keep(CONTROL, service, cell, 0, null);
    }

    public int limit(int service, int cell)
            throws IndexOutOfBoundsException, IllegalStateException {
        checkService(service);
        checkCellOrNone(cell);
        return keep(LIMIT, service, cell, 0, null);
    }

    public int demand(int service, int demand, int delay)
            throws IndexOutOfBoundsException, IllegalArgumentException, IllegalStateException {
        checkService(service);
        checkNumber(demand, 0, MOST_TOLD);
        checkNumber(delay, 0, MOST_DELAY);
        return keep(DEMAND, service, demand, delay, null);
    }

    public int need(int service, int other, boolean needs)
            throws IndexOutOfBoundsException, IllegalArgumentException, IllegalStateException {
        checkService(service);
        checkService(other);
        if (service == other) {
            throw new IllegalArgumentException("a service does not need itself");
        }
        return keep(NEED, service, other, needs ? 1 : 0, null);
    }

    public int lie(int service, int load)
            throws IndexOutOfBoundsException, IllegalArgumentException, IllegalStateException {
        checkService(service);
        if (load != NONE) {
            checkNumber(load, 0, MOST_TOLD);
        }
        return keep(LIE, service, load, 0, null);
    }

    public int mend(int service) throws IndexOutOfBoundsException, IllegalStateException {
        checkService(service);
        if (table.services[service].state != CUT) {
            throw new IllegalStateException("the service is not cut");
        }
        return keep(MEND, service, 0, 0, null);
    }

    public int tick(int ticks) throws IllegalArgumentException, IllegalStateException {
        checkNumber(ticks, 1, MOST_TICKS);
        if (table.now + ticks > LAST_TICK) {
            throw new IllegalStateException("behind the last tick");
        }
        return keep(TICK, ticks, 0, 0, null);
    }

    public int undo() throws IllegalStateException {
        if (keptCount <= 0) {
            throw new IllegalStateException("no step is kept");
        }
        keptCount--;
        tellAnew(table);
        return keptCount;
    }

    // ---- questions

    public int steps() {
        return keptCount;
    }

    public int now() {
        return table.now;
    }

    public int value(int cell) throws IndexOutOfBoundsException {
        checkCell(cell);
        return table.cells[cell].value;
    }

    public int valueAnew(int cell) throws IndexOutOfBoundsException {
        checkCell(cell);
        tellAnew(spare);
        return spare.cells[cell].value;
    }

    public int worth(int cell) throws IndexOutOfBoundsException {
        checkCell(cell);
        return table.valueOf(table.cells[cell].formula);
    }

    public int depth(int cell) throws IndexOutOfBoundsException {
        checkCell(cell);
        return table.cells[cell].depth;
    }

    public boolean isStale(int cell) throws IndexOutOfBoundsException {
        checkCell(cell);
        return has(table.findStale(), cell);
    }

    public int work() {
        return table.work;
    }

    public int state(int service) throws IndexOutOfBoundsException {
        checkService(service);
        return table.services[service].state;
    }

    public int load(int service) throws IndexOutOfBoundsException {
        checkService(service);
        return table.services[service].load;
    }

    public int told(int service) throws IndexOutOfBoundsException {
        checkService(service);
        return table.services[service].told;
    }

    public int starts(int service) throws IndexOutOfBoundsException {
        checkService(service);
        return table.services[service].starts;
    }

    public int trial(int service) throws IndexOutOfBoundsException {
        checkService(service);
        spare.takeSettings(table, Math.max(0, table.now - (TRIAL_TICKS - 1)));
        spare.settle();
        for (int i = 0; i < TRIAL_TICKS && spare.now < table.now; i++) {
            tellReadingsOfTick(spare);
            spare.tell(oneTick);
        }
        tellReadingsOfTick(spare);
        return spare.services[service].starts;
    }

    public boolean isLoop(int service) throws IndexOutOfBoundsException {
        checkService(service);
        return table.hangsOnItself(service);
    }

    // ---- steps that are kept

    private int keep(int kind, int first, int second, int third, Formula formula) {
        if (keptCount < 0 || keptCount >= kept.length) {
            throw new IllegalStateException("as many steps as may be are kept");
        }
        Step step = new Step(kind, first, second, third, formula, table.now);
        kept[keptCount] = step;
        keptCount++;
        return table.tell(step);
    }

    private void tellAnew(Table other) {
        other.clear();
        for (int i = 0; i < keptCount && i < kept.length; i++) {
            Step step = kept[i];
            if (step != null) {
                other.tell(step);
            }
        }
    }

    private void tellReadingsOfTick(Table other) {
        for (int i = 0; i < keptCount && i < kept.length; i++) {
            Step step = kept[i];
            if (step != null && step.kind == READ && step.tick == other.now) {
                other.tell(step);
            }
        }
    }

    // ---- what callers may give

    private static void checkPlace(int place, int count) {
        if (place < 0 || place >= count) {
            throw new IndexOutOfBoundsException("no such cell, reading or service");
        }
    }

    private static void checkCell(int cell) {
        checkPlace(cell, CELLS);
    }

    private static void checkCellOrNone(int cell) {
        if (cell != NONE) {
            checkCell(cell);
        }
    }

    private static void checkService(int service) {
        checkPlace(service, SERVICES);
    }

    private static void checkNumber(int number, int least, int most) {
        if (number < least || number > most) {
            throw new IllegalArgumentException("a number is out of range");
        }
    }

    // ---- small things that all classes use

    private static boolean isFigure(char letter) {
        return letter >= '0' && letter <= '9';
    }

    private static int bit(int place) {
        return 1 << place;
    }

    private static boolean has(int mask, int place) {
        return ((mask >> place) & 1) != 0;
    }

    private static int within(long worth) {
        return (int) Math.max(-MOST_WORTH, Math.min(MOST_WORTH, worth));
    }

    /** The letters that were typed. */
    private static final class Text {
        private final char[] letters = new char[MOST_LETTERS];
        private int length = 0;

        boolean isFull() {
            return length >= letters.length;
        }

        void add(char letter) {
            if (length >= 0 && length < letters.length) {
                letters[length] = letter;
                length++;
            }
        }

        char letterAt(int place) {
            boolean stands = place >= 0 && place < length && place < letters.length;
            return stands ? letters[place] : NO_LETTER;
        }
    }

    /** What a cell works out: code to be run, and the mask of what it reads. */
    private static final class Formula {
        private final int[] code;
        private final int reads;

        Formula(int[] code, int reads) {
            this.code = code;
            this.reads = reads;
        }
    }

    /**
     * Goes through the text once, from the left, and writes its code. Once it is stuck, no method
     * moves on any more, so that the place stays where the text went wrong or ended.
     */
    private static final class Parser {
        private final Text text;
        private final int[] code = new int[MOST_LETTERS];
        private int size = 0;
        private int reads = 0;
        private int place = 0;
        private boolean stuck = false;

        Parser(Text text) {
            this.text = text;
        }

        int findFault() {
            size = 0;
            reads = 0;
            place = 0;
            stuck = false;
            passFormula(0);
            return stuck || place < text.length ? place : NONE;
        }

        /** Only to be called when no fault was found just before. */
        Formula makeFormula() {
            return new Formula(Arrays.copyOf(code, Math.max(0, size)), reads);
        }

        private void passFormula(int depth) {
            passSum(depth);
            int op = comparisonOf(text.letterAt(place));
            if (stuck || op == NONE) {
                return;
            }
            place++;
            passSum(depth);
            write(op, 0);
        }

        private static int comparisonOf(char letter) {
            switch (letter) {
                case '<':
                    return IS_LESS;
                case '>':
                    return IS_GREATER;
                case '=':
                    return IS_EQUAL;
                default:
                    return NONE;
            }
        }

        private void passSum(int depth) {
            passProduct(depth);
            for (int i = 0; i < MOST_LETTERS && !stuck; i++) {
                char sign = text.letterAt(place);
                if (sign != '+' && sign != '-') {
                    return;
                }
                place++;
                passProduct(depth);
                write(sign == '+' ? ADD : SUBTRACT, 0);
            }
        }

        private void passProduct(int depth) {
            passPart(depth);
            for (int i = 0; i < MOST_LETTERS && !stuck; i++) {
                if (text.letterAt(place) != '*') {
                    return;
                }
                place++;
                passPart(depth);
                write(MULTIPLY, 0);
            }
        }

        private void passPart(int depth) {
            // Each level takes a letter, so that no text can go deeper than it has letters.
            if (stuck || depth > MOST_LETTERS) {
                stuck = true;
                return;
            }
            char letter = text.letterAt(place);
            if (isFigure(letter)) {
                passNumber();
                return;
            }
            switch (letter) {
                case '-':
                    place++;
                    passPart(depth + 1);
                    write(NEGATE, 0);
                    break;
                case '(':
                    passBrackets(depth, 1);
                    break;
                case 'c':
                    passName(PUT_CELL, 0, CELLS);
                    break;
                case 'r':
                    passName(PUT_READING, FIRST_READING, READINGS);
                    break;
                case 'l':
                    passName(PUT_LOAD, FIRST_SERVICE, SERVICES);
                    break;
                case 'm':
                    place++;
                    passBrackets(depth, 2);
                    write(GREATER_OF, 0);
                    break;
                case 'n':
                    place++;
                    passBrackets(depth, 2);
                    write(LESSER_OF, 0);
                    break;
                case 'i':
                    place++;
                    passBrackets(depth, 3);
                    write(CHOOSE, 0);
                    break;
                default:
                    stuck = true;
                    break;
            }
        }

        private void passNumber() {
            int number = 0;
            for (int i = 0; i < 4 && isFigure(text.letterAt(place)); i++) {
                number = number * 10 + (text.letterAt(place) - '0');
                place++;
            }
            write(PUT_NUMBER, number);
        }

        private void passName(int op, int firstRead, int count) {
            place++;
            int number = figureAt(place);
            if (number == NONE || number >= count) {
                stuck = true;
                return;
            }
            place++;
            int next = figureAt(place);
            // A figure behind a 0 would be one more than the number has.
            if (number > 0 && next != NONE && number * 10 + next < count) {
                number = number * 10 + next;
                place++;
            }
            reads |= bit(firstRead + number);
            write(op, number);
        }

        private int figureAt(int where) {
            char letter = text.letterAt(where);
            return isFigure(letter) ? letter - '0' : NONE;
        }

        private void passBrackets(int depth, int formulas) {
            passSign('(');
            for (int i = 0; i < formulas && !stuck; i++) {
                passFormula(depth + 1);
                passSign(i < formulas - 1 ? ',' : ')');
            }
        }

        private void passSign(char sign) {
            if (stuck || text.letterAt(place) != sign) {
                stuck = true;
                return;
            }
            place++;
        }

        private void write(int op, int number) {
            if (!stuck && size >= 0 && size < code.length) {
                code[size] = (number << OP_BITS) | op;
                size++;
            }
        }
    }

    /** A call that was told, and the tick in which it was. */
    private static final class Step {
        private final int kind;
        private final int first;
        private final int second;
        private final int third;
        private final Formula formula;
        private final int tick;

        Step(int kind, int first, int second, int third, Formula formula, int tick) {
            this.kind = kind;
            this.first = first;
            this.second = second;
            this.third = third;
            this.formula = formula;
            this.tick = tick;
        }
    }

    private static final class Cell {
        private final int number;
        private Formula formula;
        private int value = 0;
        private int depth = 0;
        private boolean held = false;

        Cell(int number, Formula formula) {
            this.number = number;
            this.formula = formula;
        }
    }

    private static final class Reading {
        private int value = 0;
        private int tick = NONE;

        boolean isFresh(int now) {
            return tick != NONE && now - tick <= FRESH_TICKS;
        }
    }

    private static final class Service {
        private final int number;
        private int state = STOPPED;
        private int control = NONE;
        private int limit = NONE;
        private int needs = 0;
        private int demand = 0;
        private int delay = 0;
        private int lie = NONE;
        private int load = 0;
        private int told = 0;
        private int starts = 0;
        private int startTick = 0;
        private int startDelay = 0;
        private int changedIn = 0;

        Service(int number) {
            this.number = number;
        }

        void clear() {
            state = STOPPED;
            control = NONE;
            limit = NONE;
            needs = 0;
            demand = 0;
            delay = 0;
            lie = NONE;
            load = 0;
            told = 0;
            starts = 0;
        }

        void takeSettings(Service other) {
            control = other.control;
            limit = other.limit;
            needs = other.needs;
            demand = other.demand;
            delay = other.delay;
            lie = other.lie;
        }

        boolean isDue(int now) {
            return state == STARTING && now - startTick >= startDelay;
        }

        void enter(int next, int now) {
            if (next != state && next == RUNNING) {
                starts++;
            }
            if (next != state && next == STARTING) {
                startTick = now;
                startDelay = delay;
            }
            state = next;
        }
    }

    /** Cells, readings and services at one time, and the rounds that settle them. */
    private static final class Table {
        private final Formula zero = new Formula(new int[] {PUT_NUMBER}, 0);
        private final Cell[] cells = new Cell[CELLS];
        // The cells once more, by depth and then by number: what one reads stands ahead of it.
        private final Cell[] order = new Cell[CELLS];
        private final Reading[] readings = new Reading[READINGS];
        private final Service[] services = new Service[SERVICES];
        private final int[] row = new int[MOST_LETTERS + 3];
        private int dirty = 0;
        private int now = 0;
        private int work = 0;

        Table() {
            for (int i = 0; i < CELLS; i++) {
                Cell cell = new Cell(i, zero);
                cells[i] = cell;
                order[i] = cell;
            }
            for (int i = 0; i < READINGS; i++) {
                readings[i] = new Reading();
            }
            for (int i = 0; i < SERVICES; i++) {
                services[i] = new Service(i);
            }
        }

        void clear() {
            for (Cell cell : cells) {
                cell.formula = zero;
                cell.value = 0;
                cell.held = false;
            }
            for (Reading reading : readings) {
                reading.value = 0;
                reading.tick = NONE;
            }
            for (Service service : services) {
                service.clear();
            }
            dirty = 0;
            now = 0;
            work = 0;
            arrange();
        }

        /** Begins anew in a tick, with all that was told to the other table but its readings. */
        void takeSettings(Table other, int tick) {
            clear();
            now = tick;
            for (int i = 0; i < CELLS; i++) {
                Cell cell = cells[i];
                Cell model = other.cells[i];
                cell.formula = model.formula;
                cell.held = model.held;
                cell.value = model.held ? model.value : 0;
                dirty |= model.held ? 0 : bit(i);
            }
            for (int i = 0; i < SERVICES; i++) {
                services[i].takeSettings(other.services[i]);
            }
            arrange();
        }

        // ---- steps

        /** Returns the rounds. */
        int tell(Step step) {
            if (step.kind != TICK) {
                change(step);
                return settle();
            }
            int rounds = 0;
            for (int i = 0; i < step.first; i++) {
                now++;
                // When all is settled, time alone changes nothing but by a delay that ends: what
                // grows stale stops nothing. The one round behind the tick need not be gone through.
                rounds += isStartDue() ? settle() : 1;
            }
            return rounds;
        }

        private void change(Step step) {
            if (step.kind == READ) {
                changeReading(step);
            } else if (step.kind < READ) {
                changeCell(step);
            } else {
                changeService(step);
            }
        }

        private boolean isStartDue() {
            for (Service service : services) {
                if (service.isDue(now)) {
                    return true;
                }
            }
            return false;
        }

        private void changeReading(Step step) {
            if (step.first < 0 || step.first >= readings.length) {
                return;
            }
            Reading reading = readings[step.first];
            reading.tick = now;
            if (reading.value != step.second) {
                reading.value = step.second;
                soilReaders(FIRST_READING + step.first);
            }
        }

        private void changeCell(Step step) {
            if (step.first < 0 || step.first >= cells.length) {
                return;
            }
            Cell cell = cells[step.first];
            if (step.kind == HOLD) {
                cell.held = true;
                dirty &= ~bit(cell.number);
                setValue(cell, step.second);
                return;
            }
            if (step.kind == RELEASE) {
                cell.held = false;
            } else if (step.formula != null) {
                cell.formula = step.formula;
                arrange();
            }
            if (!cell.held) {
                dirty |= bit(cell.number);
            }
        }

        private void changeService(Step step) {
            if (step.first < 0 || step.first >= services.length) {
                return;
            }
            Service service = services[step.first];
            switch (step.kind) {
                case CONTROL:
                    service.control = step.second;
                    break;
                case LIMIT:
                    service.limit = step.second;
                    break;
                case DEMAND:
                    service.demand = step.second;
                    service.delay = step.third;
                    break;
                case NEED:
                    int others = service.needs & ~bit(step.second);
                    service.needs = step.third != 0 ? others | bit(step.second) : others;
                    break;
                case LIE:
                    service.lie = step.second;
                    break;
                default:
                    service.state = STOPPED;
                    break;
            }
        }

        // ---- rounds

        /** Returns the rounds. */
        int settle() {
            // When every service is cut, the first round is quiet: there is no more than this.
            int most = (SERVICES + 1) * ROUNDS_BEFORE_CUT;
            int sinceCut = 0;
            forgetChanges();
            for (int rounds = 1; rounds <= most; rounds++) {
                sinceCut++;
                workOutDirtyCells();
                if (!lookAtServices(sinceCut)) {
                    return rounds;
                }
                if (sinceCut >= ROUNDS_BEFORE_CUT) {
                    cutLowestOfLateChanges();
                    forgetChanges();
                    sinceCut = 0;
                }
            }
            return most;
        }

        private void forgetChanges() {
            for (Service service : services) {
                service.changedIn = 0;
            }
        }

        private void cutLowestOfLateChanges() {
            for (Service service : services) {
                if (service.changedIn > ROUNDS_BEFORE_CUT - LATE_ROUNDS) {
                    service.state = CUT;
                    service.load = 0;
                    setTold(service, 0);
                    return;
                }
            }
        }

        private void workOutDirtyCells() {
            for (Cell cell : order) {
                if (dirty == 0) {
                    return;
                }
                if (has(dirty, cell.number)) {
                    dirty &= ~bit(cell.number);
                    work++;
                    setValue(cell, valueOf(cell.formula));
                }
            }
        }

        private void setValue(Cell cell, int value) {
            if (cell.value != value) {
                cell.value = value;
                soilReaders(cell.number);
            }
        }

        private void setTold(Service service, int told) {
            if (service.told != told) {
                service.told = told;
                soilReaders(FIRST_SERVICE + service.number);
            }
        }

        private void soilReaders(int read) {
            for (Cell cell : cells) {
                if (!cell.held && has(cell.formula.reads, read)) {
                    dirty |= bit(cell.number);
                }
            }
        }

        /** Returns whether something changed. */
        private boolean lookAtServices(int round) {
            boolean changed = false;
            for (Service service : services) {
                int state = nextState(service);
                int load = state == RUNNING ? loadRunning(service) : 0;
                int told = state == RUNNING && service.lie != NONE ? service.lie : load;
                if (state != service.state || load != service.load || told != service.told) {
                    service.enter(state, now);
                    service.load = load;
                    setTold(service, told);
                    service.changedIn = round;
                    changed = true;
                }
            }
            return changed;
        }

        private int nextState(Service service) {
            if (service.state == CUT) {
                return CUT;
            }
            if (!isWanted(service)) {
                return STOPPED;
            }
            if (service.state == STOPPED) {
                if (has(findStale(), service.control)) {
                    return STOPPED;
                }
                return service.delay == 0 ? RUNNING : STARTING;
            }
            return service.state == STARTING && !service.isDue(now) ? STARTING : RUNNING;
        }

        private boolean isWanted(Service service) {
            if (cellValue(service.control, 0) <= 0) {
                return false;
            }
            for (Service other : services) {
                if (other.state != RUNNING && has(service.needs, other.number)) {
                    return false;
                }
            }
            return true;
        }

        private int loadRunning(Service service) {
            int most = cellValue(service.limit, service.demand);
            return Math.max(0, Math.min(service.demand, most));
        }

        // ---- what formulas come to

        int valueOf(Formula formula) {
            int size = 0;
            for (int token : formula.code) {
                int op = token & OP_MASK;
                int operands = op < OPERANDS.length ? OPERANDS[op] : 0;
                size -= operands;
                // Code that the parser wrote never gets here with too few or too many in the row.
                if (size < 0 || size + 2 >= row.length) {
                    return 0;
                }
                long result = operands == 0
                        ? valueNamed(op, token >> OP_BITS)
                        : combine(op, row[size], row[size + 1], row[size + 2]);
                row[size] = within(result);
                size++;
            }
            return row[0];
        }

        private int valueNamed(int op, int number) {
            switch (op) {
                case PUT_CELL:
                    return cellValue(number, 0);
                case PUT_READING:
                    return number >= 0 && number < readings.length ? readings[number].value : 0;
                case PUT_LOAD:
                    return number >= 0 && number < services.length ? services[number].told : 0;
                default:
                    return number;
            }
        }

        private int cellValue(int cell, int otherwise) {
            return cell >= 0 && cell < cells.length ? cells[cell].value : otherwise;
        }

        private static long combine(int op, int first, int second, int third) {
            switch (op) {
                case NEGATE:
                    return -first;
                case ADD:
                    return first + second;
                case SUBTRACT:
                    return first - second;
                case MULTIPLY:
                    return (long) first * second;
                case IS_LESS:
                    return first < second ? 1 : 0;
                case IS_GREATER:
                    return first > second ? 1 : 0;
                case IS_EQUAL:
                    return first == second ? 1 : 0;
                case GREATER_OF:
                    return Math.max(first, second);
                case LESSER_OF:
                    return Math.min(first, second);
                default:
                    return first > 0 ? second : third;
            }
        }

        // ---- what hangs on what

        /** Finds depths and order, depth by depth: a cell's turn is when all that it reads had theirs. */
        private void arrange() {
            int placed = ~ALL_CELLS;
            int count = 0;
            for (int depth = 0; depth < CELLS && placed != -1; depth++) {
                int found = 0;
                for (Cell cell : cells) {
                    boolean turn = !has(placed, cell.number) && (cell.formula.reads & ~placed) == 0;
                    if (turn && count >= 0 && count < order.length) {
                        order[count] = cell;
                        count++;
                        cell.depth = depth;
                        found |= bit(cell.number);
                    }
                }
                placed |= found;
            }
        }

        /** The mask with all that its cells read, over cells. */
        int withAllRead(int mask) {
            int all = mask;
            for (int i = order.length - 1; i >= 0; i--) {
                if (has(all, order[i].number)) {
                    all |= order[i].formula.reads;
                }
            }
            return all;
        }

        /** The mask of the stale readings and the stale cells. */
        int findStale() {
            int stale = 0;
            for (int i = 0; i < readings.length; i++) {
                stale |= readings[i].isFresh(now) ? 0 : bit(FIRST_READING + i);
            }
            for (Cell cell : order) {
                if (!cell.held && (cell.formula.reads & stale) != 0) {
                    stale |= bit(cell.number);
                }
            }
            return stale;
        }

        boolean hangsOnItself(int service) {
            int found = 0;
            int next = service >= 0 && service < services.length ? servicesUnder(services[service]) : 0;
            for (int i = 0; i < SERVICES && next != found; i++) {
                found = next;
                for (Service other : services) {
                    if (has(found, other.number)) {
                        next |= servicesUnder(other);
                    }
                }
            }
            return has(next, service);
        }

        private int servicesUnder(Service service) {
            int read = service.control == NONE ? 0 : bit(service.control);
            read |= service.limit == NONE ? 0 : bit(service.limit);
            return service.needs | (withAllRead(read) >> FIRST_SERVICE);
        }
    }
}
