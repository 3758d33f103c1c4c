import java.util.Arrays;

/** Colourings of the numbers 1 to N in which no equation has a solution of one colour. */
public final class AvoidColours {
    public static final int UNKNOWN = -1, OUTSIDE = -2, STATE = -3, FULL = -4, NONE = -9;

    private static final int TOP = 10;
    private static final int MOST_COLOURS = 3;
    private static final int MOST_EQUATIONS = 4;
    private static final int MOST_DOINGS = 4;
    private static final int TENTHS = 10;
    private static final int UNPIN = 9;
    private static final int NO_PIN = -1;
    private static final int FINE = 0;

    private final Text text;
    private final Task now;
    private final Task draft;
    private final Task trial;
    private final Task bare;
    private final Task[] slots;
    private final History history;
    private final Walk walk;
    private long chance;

    public AvoidColours() {
        text = new Text();
        now = new Task();
        draft = new Task();
        trial = new Task();
        bare = new Task();
        slots = new Task[] {new Task(), new Task()};
        history = new History();
        walk = new Walk();
        now.start(1, 2);
        settle(now);
    }

    // ---- the task

    public int write(int letter) {
        if (letter < 0 || letter > 255) {
            return OUTSIDE;
        }
        return text.append(letter) ? text.length : FULL;
    }

    public int wipe() {
        int had = text.length;
        text.length = 0;
        return had;
    }

    public int fault() {
        return text.read(draft);
    }

    public int task() {
        if (text.read(draft) != NONE) {
            return STATE;
        }
        now.copy(draft);
        history.forget();
        for (int slot = 0; slot < slots.length; slot++) {
            empty(slotAt(slot));
        }
        return settle(now);
    }

    public int equation(int equation, int what) {
        if (!now.hasEquation(equation)) {
            return UNKNOWN;
        }
        switch (what) {
            case 0:
            case 1:
            case 2:
                return now.part(equation, what) + 10;
            case 3:
                return now.part(equation, Task.APART);
            case 4:
                return now.regular(equation) ? 1 : 0;
            case 5:
                return now.solutions(equation);
            default:
                return OUTSIDE;
        }
    }

    public int solution(int equation, int i) {
        if (!now.hasEquation(equation)) {
            return UNKNOWN;
        }
        return now.solutionAt(equation, i);
    }

    public int number(int number, int what) {
        if (!now.has(number)) {
            return UNKNOWN;
        }
        switch (what) {
            case 0:
                return now.coloured ? now.colourOf(number) : NONE;
            case 1:
                return now.pinOf(number) == NO_PIN ? NONE : now.pinOf(number);
            case 2:
                walk.survey(now, 0);
                return walk.possibleOf(number);
            case 3:
                walk.survey(now, 0);
                return walk.forces(number) ? 1 : 0;
            default:
                return OUTSIDE;
        }
    }

    // ---- acts

    public int go(int colouring) {
        walk.survey(now, colouring);
        if (colouring < 0 || colouring >= walk.found) {
            return UNKNOWN;
        }
        history.remember(now);
        int alike = now.alike(walk.chosen);
        now.recolour(walk.chosen, true);
        return now.n - alike;
    }

    public int paint(int number, int colour) {
        int refusal = refusalOfPaint(now, number, colour);
        if (refusal != FINE) {
            return refusal;
        }
        history.remember(now);
        now.repaint(number, colour);
        walk.survey(now, 0);
        return walk.rank;
    }

    public int reach(int n) {
        if (!reachable(n)) {
            return OUTSIDE;
        }
        history.remember(now);
        now.resize(n);
        return settle(now);
    }

    public int add(int a, int b, int c, int apart) {
        if (!factor(a) || !factor(b) || !factor(c) || apart < 0 || apart > 1) {
            return OUTSIDE;
        }
        if (now.equations >= MOST_EQUATIONS) {
            return FULL;
        }
        history.remember(now);
        now.append(a, b, c, apart);
        return settle(now);
    }

    public int drop() {
        if (now.equations <= 0) {
            return STATE;
        }
        history.remember(now);
        now.equations--;
        return settle(now);
    }

    public int pin(int number, int colour) {
        int refusal = refusalOfPin(now, number, colour);
        if (refusal != FINE) {
            return refusal;
        }
        history.remember(now);
        now.setPin(number, colour);
        return settle(now);
    }

    public int undo() {
        return history.restore(now) ? history.size : STATE;
    }

    // ---- questions

    public int ask(int what) {
        switch (what) {
            case 0:
                walk.survey(now, 0);
                return walk.found;
            case 1:
                walk.survey(now, 0);
                return walk.rank;
            case 2:
                return limit(now);
            case 3:
                return forcedNumbers();
            case 4:
                return paintable();
            case 5:
                return walk.countKinds(now);
            case 6:
                walk.survey(now, 0);
                return walk.deadEnds;
            default:
                return OUTSIDE;
        }
    }

    public int on() {
        if (now.n >= TOP || !now.coloured) {
            return STATE;
        }
        walk.begin(now);
        int next = 1 << (now.n + 1);
        int colours = 0;
        for (int colour = 0; colour < now.k; colour++) {
            if (walk.clashes.in(now.classOf(colour) | next) == 0) {
                colours |= 1 << colour;
            }
        }
        return colours;
    }

    public int judge(int n, long row) {
        if (n < 1 || n > MOST_DOINGS || row < 0 || cutDoings(row, n) != 0) {
            return OUTSIDE;
        }
        trial.copy(now);
        for (int i = 0; i < n; i++) {
            if (!stands((int) (cutDoings(row, n - 1 - i) % 10000))) {
                return i;
            }
        }
        return NONE;
    }

    // ---- observations

    public int see(int a, int b, int was) {
        if (a < 1 || a > TOP || b < 1 || b > TOP || a == b || was < 0 || was > 1) {
            return OUTSIDE;
        }
        return walk.sightings.note(1 << a | 1 << b, was == 1) ? walk.sightings.size : FULL;
    }

    public int unsee() {
        int had = walk.sightings.size;
        walk.sightings.size = 0;
        return had;
    }

    public int which(int what) {
        if (what < 0 || what > 1) {
            return OUTSIDE;
        }
        walk.survey(now, 0);
        return what == 0 ? walk.agreeing : walk.lowest;
    }

    // ---- shares and probabilities

    public int share(int equation, boolean upper) {
        if (!now.hasEquation(equation)) {
            return UNKNOWN;
        }
        walk.tally(now);
        int all = now.equations;
        long sum = 0;
        for (int before = 0; before < 1 << all; before++) {
            if ((before >> equation & 1) == 0) {
                int earlier = Integer.bitCount(before);
                long orders = factorial(earlier) * factorial(all - 1 - earlier);
                sum += orders * (walk.heeding(before) - walk.heeding(before | 1 << equation));
            }
        }
        return fraction(sum, factorial(all), upper);
    }

    public int luck(boolean upper) {
        walk.survey(now, 0);
        return fraction(walk.found, power(now.k, now.n), upper);
    }

    public int lost(int x, boolean upper) {
        if (x < 0 || x > TENTHS) {
            return OUTSIDE;
        }
        walk.tally(now);
        int all = now.equations;
        long sum = 0;
        for (int left = 0; left < 1 << all; left++) {
            if (walk.heeding(left) > 0) {
                int stay = Integer.bitCount(left);
                sum += power(TENTHS - x, stay) * power(x, all - stay);
            }
        }
        return fraction(sum, power(TENTHS, all), upper);
    }

    public long seed(long v) {
        long before = chance;
        chance = v;
        return before;
    }

    public int drawn(int m) {
        if (m < 1 || m > 9) {
            return OUTSIDE;
        }
        int sum = 0;
        for (int time = 0; time < m; time++) {
            sum += drawAll();
        }
        return sum;
    }

    // ---- slots and counts

    public int keep(int slot) {
        Task kept = slotAt(slot);
        if (kept == null) {
            return UNKNOWN;
        }
        kept.copy(now);
        return now.n;
    }

    public int again(int slot) {
        Task kept = slotAt(slot);
        if (kept == null) {
            return UNKNOWN;
        }
        if (kept.n == 0) {
            return STATE;
        }
        now.copy(kept);
        history.forget();
        return now.n;
    }

    public int count(int what) {
        switch (what) {
            case 0:
                return text.length;
            case 1:
                return now.n;
            case 2:
                return now.k;
            case 3:
                return now.equations;
            case 4:
                return now.pinned();
            case 5:
                return history.size;
            case 6:
                return walk.sightings.size;
            default:
                return OUTSIDE;
        }
    }

    // ---- what the methods share

    /** Brings the present colouring in line with a changed task and tells the number of valid ones. */
    private int settle(Task task) {
        walk.survey(task, 0);
        if (walk.rank == NONE) {
            task.recolour(walk.chosen, walk.found > 0);
        }
        return walk.found;
    }

    private int refusalOfPaint(Task task, int number, int colour) {
        if (!task.has(number)) {
            return UNKNOWN;
        }
        if (!task.hasColour(colour)) {
            return OUTSIDE;
        }
        if (!task.coloured || task.colourOf(number) == colour || !task.allows(number, colour)) {
            return STATE;
        }
        walk.begin(task);
        return walk.clashes.in(task.classOf(colour) | 1 << number) == 0 ? FINE : STATE;
    }

    private static int refusalOfPin(Task task, int number, int colour) {
        if (!task.has(number)) {
            return UNKNOWN;
        }
        return task.hasColour(colour) || colour == UNPIN ? FINE : OUTSIDE;
    }

    private static boolean reachable(int n) {
        return n >= 1 && n <= TOP;
    }

    private static boolean factor(int value) {
        return value >= -4 && value <= 4 && value != 0;
    }

    private int limit(Task task) {
        bare.copy(task);
        bare.unpin();
        bare.resize(TOP);
        walk.survey(bare, 0);
        return walk.deepest < TOP ? walk.deepest + 1 : NONE;
    }

    private int forcedNumbers() {
        walk.survey(now, 0);
        int numbers = 0;
        for (int number = 1; number <= now.n; number++) {
            if (walk.forces(number)) {
                numbers |= 1 << number;
            }
        }
        return numbers;
    }

    private int paintable() {
        int pairs = 0;
        for (int number = 1; number <= now.n; number++) {
            for (int colour = 0; colour < now.k; colour++) {
                if (refusalOfPaint(now, number, colour) == FINE) {
                    pairs++;
                }
            }
        }
        return pairs;
    }

    /** The row without its last doings. */
    private static long cutDoings(long row, int doings) {
        long rest = row;
        for (int i = 0; i < doings; i++) {
            rest /= 10000;
        }
        return rest;
    }

    /** Carries a doing out on the trial, or checks it there; false if it is impossible or not true. */
    private boolean stands(int doing) {
        int rest = doing % 1000;
        int number = rest / 10;
        int last = rest % 10;
        switch (doing / 1000) {
            case 1:
                if (refusalOfPaint(trial, number, last) != FINE) {
                    return false;
                }
                trial.repaint(number, last);
                return true;
            case 2:
                if (refusalOfPin(trial, number, last) != FINE) {
                    return false;
                }
                trial.setPin(number, last);
                settle(trial);
                return true;
            case 3:
                if (!reachable(rest)) {
                    return false;
                }
                trial.resize(rest);
                settle(trial);
                return true;
            case 4:
                walk.survey(trial, 0);
                return walk.found == rest;
            case 5:
                walk.survey(trial, 0);
                return walk.possibleOf(number) == 1 << last;
            case 6:
                return trial.hasEquation(rest) && trial.regular(rest);
            case 7:
                return limit(trial) == (rest == 0 ? NONE : rest);
            default:
                return false;
        }
    }

    /** One greedy colouring; tells how many numbers got a colour. */
    private int drawAll() {
        walk.begin(now);
        for (int number = 1; number <= now.n; number++) {
            if (!draw(number)) {
                return number - 1;
            }
        }
        return now.n;
    }

    private boolean draw(int number) {
        chance = chance * 6364136223846793005L + 1442695040888963407L;
        int v = (int) (chance >>> 33);
        int k = now.k;
        for (int i = 0; i < k; i++) {
            // v + i itself could be too great for an int.
            if (walk.put(number, (v % k + i) % k)) {
                return true;
            }
        }
        return false;
    }

    private Task slotAt(int slot) {
        return slot >= 0 && slot < slots.length ? slots[slot] : null;
    }

    /** No task has the N 0: a slot with it keeps nothing. */
    private static void empty(Task slot) {
        if (slot != null) {
            slot.n = 0;
        }
    }

    private static long power(int base, int exponent) {
        long product = 1;
        for (int i = 0; i < exponent; i++) {
            product *= base;
        }
        return product;
    }

    private static long factorial(int of) {
        long product = 1;
        for (int i = 2; i <= of; i++) {
            product *= i;
        }
        return product;
    }

    /** The numerator or the denominator of above / below in lowest terms; below is greater than 0. */
    private static int fraction(long above, long below, boolean upper) {
        long divisor = below;
        long rest = above;
        for (int i = 0; i < 100 && rest != 0; i++) {
            long next = divisor % rest;
            divisor = rest;
            rest = next;
        }
        if (divisor == 0) {
            return 0;
        }
        return (int) ((upper ? above : below) / divisor);
    }

    /** N, K, the equations, the pins and the present colouring. */
    private static final class Task {
        private static final int PARTS = 4;
        private static final int APART = 3;

        /** For each equation A, B, C and whether it is distinct. */
        private final int[] parts = new int[PARTS * MOST_EQUATIONS];
        private final int[] pins = new int[TOP + 1];
        /** For each colour the set of the numbers that have it in the present colouring. */
        private final int[] classes = new int[MOST_COLOURS];
        private int n;
        private int k;
        private int equations;
        private boolean coloured;

        private void start(int newN, int newK) {
            n = newN;
            k = newK;
            equations = 0;
            coloured = false;
            unpin();
            Arrays.fill(classes, 0);
        }

        private void copy(Task other) {
            n = other.n;
            k = other.k;
            equations = other.equations;
            coloured = other.coloured;
            System.arraycopy(other.parts, 0, parts, 0, PARTS * MOST_EQUATIONS);
            System.arraycopy(other.pins, 0, pins, 0, TOP + 1);
            System.arraycopy(other.classes, 0, classes, 0, MOST_COLOURS);
        }

        private boolean has(int number) {
            return number >= 1 && number <= n && number <= TOP;
        }

        private boolean hasColour(int colour) {
            return colour >= 0 && colour < k && colour < MOST_COLOURS;
        }

        private boolean hasEquation(int equation) {
            return equation >= 0 && equation < equations && equation < MOST_EQUATIONS;
        }

        private int part(int equation, int which) {
            boolean there = hasEquation(equation) && which >= 0 && which < PARTS;
            return there ? parts[PARTS * equation + which] : 0;
        }

        private void append(int a, int b, int c, int apart) {
            if (equations < 0 || equations >= MOST_EQUATIONS) {
                return;
            }
            int place = PARTS * equations;
            parts[place] = a;
            parts[place + 1] = b;
            parts[place + 2] = c;
            parts[place + APART] = apart;
            equations++;
        }

        private boolean regular(int equation) {
            int a = part(equation, 0);
            int b = part(equation, 1);
            int c = part(equation, 2);
            return a + b == 0 || a - c == 0 || b - c == 0 || a + b - c == 0;
        }

        /** The z from 1 to most that makes a solution with x and y, or 0. */
        private int third(int equation, int x, int y, int most) {
            if (equation < 0 || equation >= MOST_EQUATIONS) {
                return 0;
            }
            int place = PARTS * equation;
            int c = parts[place + 2];
            int sum = parts[place] * x + parts[place + 1] * y;
            if (c == 0 || sum % c != 0) {
                return 0;
            }
            int z = sum / c;
            boolean alike = x == y || x == z || y == z;
            if (z < 1 || z > most || alike && parts[place + APART] == 1) {
                return 0;
            }
            return z;
        }

        private int solutions(int equation) {
            int found = 0;
            for (int x = 1; x <= n; x++) {
                for (int y = 1; y <= n; y++) {
                    if (third(equation, x, y, n) > 0) {
                        found++;
                    }
                }
            }
            return found;
        }

        private int solutionAt(int equation, int i) {
            int found = 0;
            for (int x = 1; x <= n; x++) {
                for (int y = 1; y <= n; y++) {
                    int z = third(equation, x, y, n);
                    if (z > 0) {
                        if (found == i) {
                            return 10000 * x + 100 * y + z;
                        }
                        found++;
                    }
                }
            }
            return NONE;
        }

        private int pinOf(int number) {
            return number >= 1 && number <= n && number <= TOP ? pins[number] : NO_PIN;
        }

        /** Whatever is no colour removes the pin. */
        private void setPin(int number, int colour) {
            if (has(number)) {
                pins[number] = hasColour(colour) ? colour : NO_PIN;
            }
        }

        private void unpin() {
            Arrays.fill(pins, NO_PIN);
        }

        private int pinned() {
            int found = 0;
            for (int number = 1; number <= n; number++) {
                if (pinOf(number) != NO_PIN) {
                    found++;
                }
            }
            return found;
        }

        private boolean free(int number) {
            return number >= 1 && number <= n && number <= TOP && pins[number] == NO_PIN;
        }

        private boolean allows(int number, int colour) {
            boolean there = number >= 1 && number <= n && number <= TOP && colour >= 0 && colour < k;
            return there && (pins[number] == NO_PIN || pins[number] == colour);
        }

        private void resize(int newN) {
            for (int number = newN + 1; number <= n; number++) {
                setPin(number, NO_PIN);
            }
            coloured = coloured && newN == n;
            n = newN;
        }

        private int classOf(int colour) {
            return hasColour(colour) ? classes[colour] : 0;
        }

        private int colourOf(int number) {
            for (int colour = 0; colour < MOST_COLOURS; colour++) {
                if ((classOf(colour) >> number & 1) == 1) {
                    return colour;
                }
            }
            return NONE;
        }

        private void repaint(int number, int colour) {
            if (!has(number) || !hasColour(colour)) {
                return;
            }
            for (int other = 0; other < MOST_COLOURS; other++) {
                classes[other] &= ~(1 << number);
            }
            classes[colour] |= 1 << number;
        }

        private void recolour(int[] newClasses, boolean there) {
            coloured = there;
            for (int colour = 0; colour < MOST_COLOURS && colour < newClasses.length; colour++) {
                classes[colour] = there ? newClasses[colour] : 0;
            }
        }

        private boolean hasClasses(int[] others) {
            for (int colour = 0; colour < MOST_COLOURS && colour < others.length; colour++) {
                if (classes[colour] != others[colour]) {
                    return false;
                }
            }
            return true;
        }

        /** How many numbers have the same colour in the present colouring and in the other one. */
        private int alike(int[] others) {
            int found = 0;
            for (int colour = 0; colour < MOST_COLOURS && colour < others.length; colour++) {
                found += Integer.bitCount(classes[colour] & others[colour]);
            }
            return found;
        }
    }

    /** Tells for each set of the numbers 1 to 10 which equations have a solution in it. */
    private static final class Clashes {
        private static final int SETS = 1 << (TOP + 1);

        private final int[] broken = new int[SETS];
        private final Task built = new Task();

        /** The table is dear: it is made anew only if the equations are others than before. */
        private void fit(Task task) {
            if (sameEquations(task)) {
                return;
            }
            built.copy(task);
            Arrays.fill(broken, 0);
            for (int equation = 0; equation < built.equations; equation++) {
                for (int x = 1; x <= TOP; x++) {
                    for (int y = 1; y <= TOP; y++) {
                        int z = built.third(equation, x, y, TOP);
                        if (z >= 1 && z <= TOP) {
                            broken[1 << x | 1 << y | 1 << z] |= 1 << equation;
                        }
                    }
                }
            }
            spread();
        }

        private boolean sameEquations(Task task) {
            if (task.equations != built.equations) {
                return false;
            }
            int used = Task.PARTS * task.equations;
            for (int i = 0; i < used && i < task.parts.length && i < built.parts.length; i++) {
                if (task.parts[i] != built.parts[i]) {
                    return false;
                }
            }
            return true;
        }

        /** A set has the solutions of the sets that lack one of its numbers; these come before it. */
        private void spread() {
            for (int set = 0; set < SETS; set++) {
                for (int number = 1; number <= TOP; number++) {
                    broken[set] |= broken[set & ~(1 << number)];
                }
            }
        }

        private int in(int set) {
            return set >= 0 && set < SETS ? broken[set] : 0;
        }
    }

    /** Goes through the colourings of a task, number after number, in lexicographic order. */
    private static final class Walk {
        /**
         * The ways to name three blocks by colours. They serve two colours too:
         * a block without a pin takes the one left over.
         */
        private static final int[] NAMES = {0, 1, 2, 0, 2, 1, 1, 0, 2, 1, 2, 0, 2, 0, 1, 2, 1, 0};
        private static final int NAMINGS = 6;
        private static final int ALL = 63;

        private final Sightings sightings = new Sightings();
        private final Clashes clashes = new Clashes();
        /** A copy, so that the task may be changed while the results are still of use. */
        private final Task task = new Task();
        /** For each colour the set of the numbers that have it so far. */
        private final int[] classes = new int[MOST_COLOURS];
        private final int[] chosen = new int[MOST_COLOURS];
        private final int[] possible = new int[TOP + 1];
        /** For each set of equations how many colourings make solutions of just these one colour. */
        private final int[] tallies = new int[1 << MOST_EQUATIONS];
        private int wanted;
        private int found;
        private int rank;
        private int deadEnds;
        private int deepest;
        private int agreeing;
        private int lowest;
        private int kinds;

        private void begin(Task of) {
            task.copy(of);
            clashes.fit(task);
            Arrays.fill(classes, 0);
        }

        /** Visits all valid colourings; the one with the wanted number is put into chosen. */
        private void survey(Task of, int number) {
            begin(of);
            Arrays.fill(possible, 0);
            wanted = number;
            found = 0;
            rank = NONE;
            deadEnds = 0;
            deepest = 0;
            agreeing = 0;
            lowest = NONE;
            extend(this, 1);
        }

        private static void extend(Walk walk, int number) {
            walk.deepest = Math.max(walk.deepest, number - 1);
            if (!walk.task.has(number)) {
                walk.arrive();
                return;
            }
            boolean stuck = true;
            for (int colour = 0; colour < MOST_COLOURS; colour++) {
                if (walk.put(number, colour)) {
                    int before = walk.found;
                    extend(walk, number + 1);
                    walk.lift(number, colour);
                    walk.allow(number, colour, walk.found > before);
                    stuck = false;
                }
            }
            if (stuck) {
                walk.deadEnds++;
            }
        }

        /** Takes note of a valid colouring. */
        private void arrive() {
            if (found == wanted) {
                System.arraycopy(classes, 0, chosen, 0, MOST_COLOURS);
            }
            if (task.coloured && task.hasClasses(classes)) {
                rank = found;
            }
            if (sightings.agree(classes, task.n)) {
                lowest = agreeing == 0 ? found : lowest;
                agreeing++;
            }
            found++;
        }

        /** Gives a number a colour, if the pins and the equations allow it. */
        private boolean put(int number, int colour) {
            if (!task.allows(number, colour) || colour < 0 || colour >= MOST_COLOURS) {
                return false;
            }
            int set = classes[colour] | 1 << number;
            if (clashes.in(set) != 0) {
                return false;
            }
            classes[colour] = set;
            return true;
        }

        private int with(int number, int colour) {
            return colour >= 0 && colour < MOST_COLOURS ? classes[colour] | 1 << number : 0;
        }

        private void lay(int number, int colour) {
            if (colour >= 0 && colour < MOST_COLOURS) {
                classes[colour] |= 1 << number;
            }
        }

        private void lift(int number, int colour) {
            if (colour >= 0 && colour < MOST_COLOURS) {
                classes[colour] &= ~(1 << number);
            }
        }

        private void allow(int number, int colour, boolean can) {
            if (can && number >= 1 && number <= TOP) {
                possible[number] |= 1 << colour;
            }
        }

        private int possibleOf(int number) {
            return number >= 1 && number <= TOP ? possible[number] : 0;
        }

        private boolean forces(int number) {
            return Integer.bitCount(possibleOf(number)) == 1;
        }

        private int countKinds(Task of) {
            begin(of);
            kinds = 0;
            group(this, 1, 0, ALL);
            return kinds;
        }

        /**
         * Puts the number into a block that is open or into a new one. Kinds differ in their blocks,
         * and one counts if the blocks can still be named by colours as the pins ask.
         */
        private static void group(Walk walk, int number, int open, int namings) {
            if (namings == 0) {
                return;
            }
            if (!walk.task.has(number)) {
                walk.kinds++;
                return;
            }
            for (int block = 0; block <= open && block < walk.task.k; block++) {
                if (walk.clashes.in(walk.with(number, block)) == 0) {
                    int fitting = namings & walk.namingsWith(number, block);
                    walk.lay(number, block);
                    group(walk, number + 1, Math.max(open, block + 1), fitting);
                    walk.lift(number, block);
                }
            }
        }

        /** The ways to name the blocks that give this block the colour of the number's pin. */
        private int namingsWith(int number, int block) {
            int pin = task.pinOf(number);
            if (pin == NO_PIN || block < 0 || block >= MOST_COLOURS) {
                return ALL;
            }
            int namings = 0;
            for (int i = 0; i < NAMINGS; i++) {
                if (NAMES[MOST_COLOURS * i + block] == pin) {
                    namings |= 1 << i;
                }
            }
            return namings;
        }

        private void tally(Task of) {
            begin(of);
            Arrays.fill(tallies, 0);
            spread(this, 1);
        }

        private static void spread(Walk walk, int number) {
            if (!walk.task.has(number)) {
                walk.mark();
                return;
            }
            for (int colour = 0; colour < MOST_COLOURS; colour++) {
                if (walk.task.allows(number, colour)) {
                    walk.lay(number, colour);
                    spread(walk, number + 1);
                    walk.lift(number, colour);
                }
            }
        }

        private void mark() {
            int broken = 0;
            for (int set : classes) {
                broken |= clashes.in(set);
            }
            if (broken >= 0 && broken < tallies.length) {
                tallies[broken]++;
            }
        }

        /** How many of the tallied colourings are valid if there are only these equations. */
        private int heeding(int equations) {
            int valid = 0;
            for (int broken = 0; broken < tallies.length; broken++) {
                if ((broken & equations) == 0) {
                    valid += tallies[broken];
                }
            }
            return valid;
        }
    }

    /** The buffer with the text of a task. */
    private static final class Text {
        private static final int MOST = 60;

        private final int[] letters = new int[MOST];
        private int length;
        private int place;

        private boolean append(int letter) {
            if (length < 0 || length >= MOST) {
                return false;
            }
            letters[length] = letter;
            length++;
            return true;
        }

        /** Reads the text into the task and tells the fault, or NONE. */
        private int read(Task task) {
            place = 0;
            if (!readHead(task)) {
                return place;
            }
            for (int parts = 0; parts < MOST && place < length; parts++) {
                if (!readPart(task)) {
                    return place;
                }
            }
            return NONE;
        }

        private boolean readPart(Task task) {
            if (task.equations < MOST_EQUATIONS && accept('e', 'e') >= 0) {
                return readEquation(task);
            }
            return task.pinned() < task.n && accept('p', 'p') >= 0 && readPin(task);
        }

        private boolean readHead(Task task) {
            if (accept('R', 'R') < 0) {
                return false;
            }
            int tens = accept('0', '1');
            if (tens < 0) {
                return false;
            }
            int ones = tens == '1' ? accept('0', '0') : accept('1', '9');
            if (ones < 0) {
                return false;
            }
            int colours = accept('2', '3');
            if (colours < 0) {
                return false;
            }
            task.start(10 * (tens - '0') + ones - '0', colours - '0');
            return true;
        }

        private boolean readEquation(Task task) {
            int a = readFactor();
            int b = a == 0 ? 0 : readFactor();
            int c = b == 0 ? 0 : readFactor();
            if (c == 0) {
                return false;
            }
            boolean apart = accept('!', '!') >= 0;
            if (!apart && accept('=', '=') < 0) {
                return false;
            }
            task.append(a, b, c, apart ? 1 : 0);
            return true;
        }

        private int readFactor() {
            int digit = accept('1', '4');
            if (digit >= 0) {
                return digit - '0';
            }
            int letter = accept('a', 'd');
            return letter >= 0 ? 'a' - 1 - letter : 0;
        }

        private boolean readPin(Task task) {
            int number = readNumber(task);
            if (number == 0) {
                return false;
            }
            int colour = accept('0', '0' + task.k - 1);
            if (colour < 0) {
                return false;
            }
            task.setPin(number, colour - '0');
            return true;
        }

        /** The number without a pin that two digits make, or 0. */
        private int readNumber(Task task) {
            int least = lowNumberFree(task) ? '0' : '1';
            int greatest = task.free(TOP) ? '1' : '0';
            int tens = accept(least, greatest);
            if (tens < 0) {
                return 0;
            }
            for (int ones = 0; ones <= 9; ones++) {
                int number = 10 * (tens - '0') + ones;
                if (task.free(number) && accept('0' + ones, '0' + ones) >= 0) {
                    return number;
                }
            }
            return 0;
        }

        private static boolean lowNumberFree(Task task) {
            for (int number = 1; number < TOP; number++) {
                if (task.free(number)) {
                    return true;
                }
            }
            return false;
        }

        /** Passes over the byte at the place and answers it, if it is one of these; otherwise -1. */
        private int accept(int least, int greatest) {
            if (place < 0 || place >= length || place >= MOST) {
                return -1;
            }
            int letter = letters[place];
            if (letter < least || letter > greatest) {
                return -1;
            }
            place++;
            return letter;
        }
    }

    /** The tasks before the latest acts, in a ring. */
    private static final class History {
        private static final int MOST = 14;

        private final Task[] past = new Task[MOST];
        private int next;
        private int size;

        private History() {
            for (int i = 0; i < MOST; i++) {
                past[i] = new Task();
            }
        }

        private void remember(Task task) {
            Task place = at(next);
            if (place == null) {
                return;
            }
            place.copy(task);
            next = (next + 1) % MOST;
            size = Math.min(size + 1, MOST);
        }

        private boolean restore(Task task) {
            int latest = (next + MOST - 1) % MOST;
            Task place = size > 0 ? at(latest) : null;
            if (place == null) {
                return false;
            }
            task.copy(place);
            next = latest;
            size--;
            return true;
        }

        private void forget() {
            size = 0;
        }

        private Task at(int place) {
            return place >= 0 && place < MOST ? past[place] : null;
        }
    }

    /** The observations: pairs of numbers, as sets, and whether they had the same colour. */
    private static final class Sightings {
        private static final int MOST = 6;

        private final int[] pairs = new int[MOST];
        private final boolean[] same = new boolean[MOST];
        private int size;

        private boolean note(int pair, boolean alike) {
            if (size < 0 || size >= MOST) {
                return false;
            }
            pairs[size] = pair;
            same[size] = alike;
            size++;
            return true;
        }

        /** Whether a colouring of 1 to n, given by the classes, agrees with all observations. */
        private boolean agree(int[] classes, int n) {
            for (int i = 0; i < size && i < MOST; i++) {
                boolean outside = pairs[i] >> (n + 1) != 0;
                boolean together = false;
                for (int set : classes) {
                    together = together || (set & pairs[i]) == pairs[i];
                }
                if (!outside && together != same[i]) {
                    return false;
                }
            }
            return true;
        }
    }
}
