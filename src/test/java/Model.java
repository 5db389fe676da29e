import java.util.ArrayDeque;
import java.util.ArrayList;
import java.util.Arrays;
import java.util.Deque;
import java.util.List;
import java.util.regex.Matcher;
import java.util.regex.Pattern;

/**
 * The document once more, as slowly and as near to its words as can be: formulas stay texts, each
 * round is gone through, what hangs on what is looked up anew each time. ModelTest holds the
 * program against it.
 */
final class Model {
    static final int CELLS = 12;
    static final int READINGS = 5;
    static final int SERVICES = 5;

    /** A step: what it does to a world, and the rounds that it answers. */
    interface Step {
        int tell(World world);
    }

    /** A step that tells a reading, for the trial. */
    static final class Told implements Step {
        final int reading;
        final int value;
        final int tick;

        Told(int reading, int value, int tick) {
            this.reading = reading;
            this.value = value;
            this.tick = tick;
        }

        @Override
        public int tell(World world) {
            world.tellReading(reading, value);
            return world.settle();
        }
    }

    final StringBuilder text = new StringBuilder();
    final List<Step> steps = new ArrayList<>();
    World world = new World();

    // ---- the text

    int type(char letter) {
        if ("0123456789crlmni+-*<>=(),".indexOf(letter) < 0) {
            throw new IllegalArgumentException();
        }
        if (text.length() == 30) {
            throw new IllegalStateException();
        }
        text.append(letter);
        return text.length();
    }

    int wipe() {
        int had = text.length();
        text.setLength(0);
        return had;
    }

    int fault() {
        return faultOf(text.toString());
    }

    /** Letter by letter, with a stack of brackets: how many commas are due, and whether a sign of < > = stood. */
    static int faultOf(String text) {
        Deque<int[]> open = new ArrayDeque<>();
        open.push(new int[] {0, 0});
        String state = "part";
        for (int i = 0; i < text.length(); i++) {
            state = next(state, text.charAt(i), open);
            if (state == null) {
                return i;
            }
        }
        boolean whole = state.equals("after") || state.equals("c1") || state.startsWith("number");
        return whole && open.size() == 1 ? -1 : text.length();
    }

    private static String next(String state, char letter, Deque<int[]> open) {
        boolean figure = letter >= '0' && letter <= '9';
        switch (state) {
            case "part":
                if (figure) {
                    return "number1";
                }
                if (letter == '(') {
                    open.push(new int[] {0, 0});
                    return "part";
                }
                if (letter == '-') {
                    return "part";
                }
                return "crlmni".indexOf(letter) >= 0 ? String.valueOf(letter) : null;
            case "c":
                return letter == '1' ? "c1" : figure ? "after" : null;
            case "r":
            case "l":
                return letter >= '0' && letter <= '4' ? "after" : null;
            case "m":
            case "n":
            case "i":
                if (letter != '(') {
                    return null;
                }
                open.push(new int[] {state.equals("i") ? 2 : 1, 0});
                return "part";
            case "c1":
                return letter == '0' || letter == '1' ? "after" : behind(letter, open);
            case "number1":
                return figure ? "number2" : behind(letter, open);
            case "number2":
                return figure ? "number3" : behind(letter, open);
            case "number3":
                return figure ? "number4" : behind(letter, open);
            default:
                return behind(letter, open);
        }
    }

    private static String behind(char letter, Deque<int[]> open) {
        int[] inner = open.peek();
        if (letter == '+' || letter == '-' || letter == '*') {
            return "part";
        }
        if ("<>=".indexOf(letter) >= 0 && inner[1] == 0) {
            inner[1] = 1;
            return "part";
        }
        if (letter == ',' && inner[0] > 0) {
            inner[0]--;
            inner[1] = 0;
            return "part";
        }
        if (letter == ')' && inner[0] == 0 && open.size() > 1) {
            open.pop();
            return "after";
        }
        return null;
    }

    // ---- steps

    int keep(Step step) {
        if (steps.size() == 40) {
            throw new IllegalStateException();
        }
        steps.add(step);
        return step.tell(world);
    }

    static void within(int number, int least, int most) {
        if (number < least || number > most) {
            throw new IllegalArgumentException();
        }
    }

    static void there(int number, int count) {
        if (number < 0 || number >= count) {
            throw new IndexOutOfBoundsException();
        }
    }

    int formula(int cell) {
        there(cell, CELLS);
        String formula = text.toString();
        if (faultOf(formula) != -1) {
            throw new IllegalArgumentException();
        }
        if (world.wouldHang(cell, formula)) {
            throw new IllegalStateException();
        }
        return keep(w -> {
            w.formula[cell] = formula;
            w.dirty[cell] = !w.held[cell];
            return w.settle();
        });
    }

    int hold(int cell, int value) {
        there(cell, CELLS);
        within(value, -1000, 1000);
        return keep(w -> {
            w.held[cell] = true;
            w.dirty[cell] = false;
            w.setValue(cell, value);
            return w.settle();
        });
    }

    int release(int cell) {
        there(cell, CELLS);
        if (!world.held[cell]) {
            throw new IllegalStateException();
        }
        return keep(w -> {
            w.held[cell] = false;
            w.dirty[cell] = true;
            return w.settle();
        });
    }

    int read(int reading, int value) {
        there(reading, READINGS);
        within(value, -1000, 1000);
        return keep(new Told(reading, value, world.now));
    }

    int control(int service, int cell) {
        there(service, SERVICES);
        there(cell + 1, CELLS + 1);
        return keep(w -> {
            w.control[service] = cell;
            return w.settle();
        });
    }

    int limit(int service, int cell) {
        there(service, SERVICES);
        there(cell + 1, CELLS + 1);
        return keep(w -> {
            w.limit[service] = cell;
            return w.settle();
        });
    }

    int demand(int service, int demand, int delay) {
        there(service, SERVICES);
        within(demand, 0, 1000);
        within(delay, 0, 10);
        return keep(w -> {
            w.demand[service] = demand;
            w.delay[service] = delay;
            return w.settle();
        });
    }

    int need(int service, int other, boolean needs) {
        there(service, SERVICES);
        there(other, SERVICES);
        if (service == other) {
            throw new IllegalArgumentException();
        }
        return keep(w -> {
            w.needs[service][other] = needs;
            return w.settle();
        });
    }

    int lie(int service, int load) {
        there(service, SERVICES);
        within(load, -1, 1000);
        return keep(w -> {
            w.lie[service] = load;
            return w.settle();
        });
    }

    int mend(int service) {
        there(service, SERVICES);
        if (world.state[service] != 3) {
            throw new IllegalStateException();
        }
        return keep(w -> {
            w.state[service] = 0;
            return w.settle();
        });
    }

    int tick(int ticks) {
        within(ticks, 1, 50);
        if (world.now + ticks > 2000) {
            throw new IllegalStateException();
        }
        return keep(w -> {
            int rounds = 0;
            for (int i = 0; i < ticks; i++) {
                w.now++;
                rounds += w.settle();
            }
            return rounds;
        });
    }

    int undo() {
        if (steps.isEmpty()) {
            throw new IllegalStateException();
        }
        steps.remove(steps.size() - 1);
        world = anew();
        return steps.size();
    }

    private World anew() {
        World other = new World();
        for (Step step : steps) {
            step.tell(other);
        }
        return other;
    }

    // ---- questions

    int value(int cell) {
        there(cell, CELLS);
        return world.value[cell];
    }

    int valueAnew(int cell) {
        there(cell, CELLS);
        return anew().value[cell];
    }

    int worth(int cell) {
        there(cell, CELLS);
        return world.worth(cell);
    }

    int depth(int cell) {
        there(cell, CELLS);
        return world.depth(cell);
    }

    int isStale(int cell) {
        there(cell, CELLS);
        return world.isStale(cell) ? 1 : 0;
    }

    int ofService(int[] what, int service) {
        there(service, SERVICES);
        return what[service];
    }

    int trial(int service) {
        there(service, SERVICES);
        World other = new World();
        other.now = Math.max(0, world.now - 23);
        for (int i = 0; i < CELLS; i++) {
            other.formula[i] = world.formula[i];
            other.held[i] = world.held[i];
            other.value[i] = world.held[i] ? world.value[i] : 0;
            other.dirty[i] = !world.held[i];
        }
        for (int i = 0; i < SERVICES; i++) {
            other.control[i] = world.control[i];
            other.limit[i] = world.limit[i];
            other.needs[i] = world.needs[i].clone();
            other.demand[i] = world.demand[i];
            other.delay[i] = world.delay[i];
            other.lie[i] = world.lie[i];
        }
        other.settle();
        for (int tick = other.now; tick <= world.now; tick++) {
            for (Step step : steps) {
                if (step instanceof Told && ((Told) step).tick == tick) {
                    step.tell(other);
                }
            }
            if (tick < world.now) {
                other.now++;
                other.settle();
            }
        }
        return other.starts[service];
    }

    int isLoop(int service) {
        there(service, SERVICES);
        return world.reaches(service, service, new boolean[SERVICES]) ? 1 : 0;
    }

    /** Cells, readings and services at one time. */
    static final class World {
        int now = 0;
        int work = 0;
        final String[] formula = new String[CELLS];
        final int[] value = new int[CELLS];
        final boolean[] held = new boolean[CELLS];
        final boolean[] dirty = new boolean[CELLS];
        final int[] reading = new int[READINGS];
        final int[] toldTick = new int[READINGS];
        final int[] state = new int[SERVICES];
        final int[] control = new int[SERVICES];
        final int[] limit = new int[SERVICES];
        final boolean[][] needs = new boolean[SERVICES][SERVICES];
        final int[] demand = new int[SERVICES];
        final int[] delay = new int[SERVICES];
        final int[] lie = new int[SERVICES];
        final int[] load = new int[SERVICES];
        final int[] told = new int[SERVICES];
        final int[] starts = new int[SERVICES];
        final int[] startTick = new int[SERVICES];
        final int[] startDelay = new int[SERVICES];

        World() {
            Arrays.fill(formula, "0");
            Arrays.fill(toldTick, -1);
            Arrays.fill(control, -1);
            Arrays.fill(limit, -1);
            Arrays.fill(lie, -1);
        }

        // ---- what is read

        static List<Integer> named(String formula, char kind) {
            List<Integer> found = new ArrayList<>();
            Matcher names = Pattern.compile(kind + "([0-9]+)").matcher(formula);
            while (names.find()) {
                found.add(Integer.parseInt(names.group(1)));
            }
            return found;
        }

        boolean wouldHang(int cell, String text) {
            for (int read : named(text, 'c')) {
                if (read == cell || wouldHang(cell, formula[read])) {
                    return true;
                }
            }
            return false;
        }

        int depth(int cell) {
            int depth = 0;
            for (int read : named(formula[cell], 'c')) {
                depth = Math.max(depth, 1 + depth(read));
            }
            return depth;
        }

        boolean isStale(int cell) {
            if (held[cell]) {
                return false;
            }
            for (int read : named(formula[cell], 'r')) {
                if (toldTick[read] == -1 || toldTick[read] < now - 10) {
                    return true;
                }
            }
            for (int read : named(formula[cell], 'c')) {
                if (isStale(read)) {
                    return true;
                }
            }
            return false;
        }

        boolean reaches(int from, int to, boolean[] seen) {
            if (seen[from]) {
                return false;
            }
            seen[from] = true;
            for (int next = 0; next < SERVICES; next++) {
                boolean direct = needs[from][next]
                        || readsLoad(control[from], next) || readsLoad(limit[from], next);
                if (direct && (next == to || reaches(next, to, seen))) {
                    return true;
                }
            }
            return false;
        }

        boolean readsLoad(int cell, int service) {
            if (cell == -1) {
                return false;
            }
            if (named(formula[cell], 'l').contains(service)) {
                return true;
            }
            for (int read : named(formula[cell], 'c')) {
                if (readsLoad(read, service)) {
                    return true;
                }
            }
            return false;
        }

        // ---- what becomes another one

        void tellReading(int which, int to) {
            toldTick[which] = now;
            if (reading[which] != to) {
                reading[which] = to;
                soil('r', which);
            }
        }

        void setValue(int cell, int to) {
            if (value[cell] != to) {
                value[cell] = to;
                soil('c', cell);
            }
        }

        void setTold(int service, int to) {
            if (told[service] != to) {
                told[service] = to;
                soil('l', service);
            }
        }

        void soil(char kind, int number) {
            for (int i = 0; i < CELLS; i++) {
                if (!held[i] && named(formula[i], kind).contains(number)) {
                    dirty[i] = true;
                }
            }
        }

        // ---- rounds

        int settle() {
            int all = 0;
            while (true) {
                List<boolean[]> rounds = new ArrayList<>();
                while (rounds.size() < 40) {
                    boolean[] changed = round();
                    rounds.add(changed);
                    boolean quiet = true;
                    for (boolean one : changed) {
                        quiet &= !one;
                    }
                    if (quiet) {
                        return all + rounds.size();
                    }
                }
                all += 40;
                cut(rounds.subList(28, 40));
            }
        }

        void cut(List<boolean[]> last) {
            for (int i = 0; i < SERVICES; i++) {
                for (boolean[] changed : last) {
                    if (changed[i]) {
                        state[i] = 3;
                        load[i] = 0;
                        setTold(i, 0);
                        return;
                    }
                }
            }
        }

        boolean[] round() {
            while (workOutFirst()) {
                work++;
            }
            boolean[] changed = new boolean[SERVICES];
            for (int i = 0; i < SERVICES; i++) {
                int wasState = state[i];
                int wasLoad = load[i];
                int wasTold = told[i];
                look(i);
                changed[i] = state[i] != wasState || load[i] != wasLoad || told[i] != wasTold;
            }
            return changed;
        }

        boolean workOutFirst() {
            int first = -1;
            for (int i = 0; i < CELLS; i++) {
                if (dirty[i] && (first == -1 || depth(i) < depth(first))) {
                    first = i;
                }
            }
            if (first == -1) {
                return false;
            }
            dirty[first] = false;
            setValue(first, worth(first));
            return true;
        }

        void look(int i) {
            boolean wanted = control[i] != -1 && value[control[i]] > 0;
            for (int j = 0; j < SERVICES; j++) {
                wanted &= !needs[i][j] || state[j] == 2;
            }
            if (state[i] != 3 && !wanted) {
                state[i] = 0;
            } else if (state[i] == 0 && !isStale(control[i])) {
                if (delay[i] == 0) {
                    state[i] = 2;
                    starts[i]++;
                } else {
                    state[i] = 1;
                    startTick[i] = now;
                    startDelay[i] = delay[i];
                }
            } else if (state[i] == 1 && now >= startTick[i] + startDelay[i]) {
                state[i] = 2;
                starts[i]++;
            }
            load[i] = 0;
            if (state[i] == 2) {
                load[i] = demand[i];
                if (limit[i] != -1 && load[i] > value[limit[i]]) {
                    load[i] = value[limit[i]];
                }
                if (load[i] < 0) {
                    load[i] = 0;
                }
            }
            setTold(i, state[i] == 2 && lie[i] != -1 ? lie[i] : load[i]);
        }

        // ---- formulas

        int worth(int cell) {
            return (int) new Reckoner(formula[cell]).formula();
        }

        /** Reckons a text that is a formula, while it reads it. */
        final class Reckoner {
            final String text;
            int at = 0;

            Reckoner(String text) {
                this.text = text;
            }

            boolean takes(char letter) {
                if (at < text.length() && text.charAt(at) == letter) {
                    at++;
                    return true;
                }
                return false;
            }

            long kept(long worth) {
                return worth > 1000000 ? 1000000 : worth < -1000000 ? -1000000 : worth;
            }

            long formula() {
                long left = sum();
                if (takes('<')) {
                    return left < sum() ? 1 : 0;
                }
                if (takes('>')) {
                    return left > sum() ? 1 : 0;
                }
                if (takes('=')) {
                    return left == sum() ? 1 : 0;
                }
                return left;
            }

            long sum() {
                long left = product();
                while (true) {
                    if (takes('+')) {
                        left = kept(left + product());
                    } else if (takes('-')) {
                        left = kept(left - product());
                    } else {
                        return left;
                    }
                }
            }

            long product() {
                long left = part();
                while (takes('*')) {
                    left = kept(left * part());
                }
                return left;
            }

            long[] formulas() {
                List<Long> found = new ArrayList<>();
                while (at < text.length() && text.charAt(at) != ')') {
                    at++;
                    found.add(formula());
                }
                at++;
                return found.stream().mapToLong(one -> one).toArray();
            }

            long part() {
                if (takes('-')) {
                    return kept(-part());
                }
                if (takes('m')) {
                    long[] all = formulas();
                    return Math.max(all[0], all[1]);
                }
                if (takes('n')) {
                    long[] all = formulas();
                    return Math.min(all[0], all[1]);
                }
                if (takes('i')) {
                    long[] all = formulas();
                    return all[0] > 0 ? all[1] : all[2];
                }
                if (takes('c')) {
                    return value[number()];
                }
                if (takes('r')) {
                    return reading[number()];
                }
                if (takes('l')) {
                    return told[number()];
                }
                return text.charAt(at) == '(' ? formulas()[0] : number();
            }

            int number() {
                int number = 0;
                while (at < text.length() && Character.isDigit(text.charAt(at))) {
                    number = number * 10 + text.charAt(at++) - '0';
                }
                return number;
            }
        }
    }
}
