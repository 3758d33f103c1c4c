import java.math.BigInteger;
import java.util.ArrayDeque;
import java.util.ArrayList;
import java.util.Arrays;
import java.util.HashMap;
import java.util.List;
import java.util.Map;
import java.util.TreeSet;

/** The document again in the dullest way: every colouring is listed and every triple is tried. */
final class Slow {
    private static final int UNKNOWN = -1, OUTSIDE = -2, STATE = -3, FULL = -4, NONE = -9;

    /** What an act can change. Never changed itself: each act makes a new one. */
    private static final class State {
        int n = 1;
        List<int[]> equations = new ArrayList<>();
        int[] pins = blank();
        int[] colours;

        State twin() {
            State s = new State();
            s.n = n;
            s.equations = new ArrayList<>(equations);
            s.pins = pins.clone();
            s.colours = colours == null ? null : colours.clone();
            return s;
        }
    }

    private final StringBuilder text = new StringBuilder();
    private State s = new State();
    private int k = 2;
    private final ArrayDeque<State> past = new ArrayDeque<>();
    private final State[] slots = new State[2];
    private final List<int[]> seen = new ArrayList<>();
    private long seed;
    private final Map<String, List<int[]>> known = new HashMap<>();

    Slow() {
        s.colours = new int[] {0};
    }

    private static int[] blank() {
        int[] pins = new int[11];
        Arrays.fill(pins, NONE);
        return pins;
    }

    // ---- colourings

    private static boolean solves(int[] e, int x, int y, int z) {
        return e[0] * x + e[1] * y == e[2] * z && (e[3] == 0 || x != y && x != z && y != z);
    }

    private static List<int[]> solutions(int[] e, int n) {
        List<int[]> all = new ArrayList<>();
        for (int x = 1; x <= n; x++) {
            for (int y = 1; y <= n; y++) {
                for (int z = 1; z <= n; z++) {
                    if (solves(e, x, y, z)) {
                        all.add(new int[] {x, y, z});
                    }
                }
            }
        }
        return all;
    }

    private static boolean oneColour(int[] c, int[] t) {
        return c[t[0] - 1] == c[t[1] - 1] && c[t[1] - 1] == c[t[2] - 1];
    }

    /** The colourings of 1 to n that the equations and the pins allow, in order. */
    private List<int[]> colourings(int n, List<int[]> equations, int[] pins) {
        StringBuilder key = new StringBuilder().append(n).append('/').append(k);
        for (int[] e : equations) {
            key.append(Arrays.toString(e));
        }
        key.append(Arrays.toString(pins));
        List<int[]> all = known.get(key.toString());
        if (all == null) {
            all = list(n, equations, pins);
            if (known.size() > 400) {
                known.clear();
            }
            known.put(key.toString(), all);
        }
        return all;
    }

    private List<int[]> list(int n, List<int[]> equations, int[] pins) {
        List<int[]> triples = new ArrayList<>();
        for (int[] e : equations) {
            triples.addAll(solutions(e, n));
        }
        List<int[]> all = new ArrayList<>();
        int total = (int) Math.round(Math.pow(k, n));
        for (int code = 0; code < total; code++) {
            int[] c = new int[n];
            int rest = code;
            for (int i = n - 1; i >= 0; i--) {
                c[i] = rest % k;
                rest /= k;
            }
            boolean good = true;
            for (int i = 0; good && i < n; i++) {
                good = pins[i + 1] == NONE || pins[i + 1] == c[i];
            }
            for (int i = 0; good && i < triples.size(); i++) {
                good = !oneColour(c, triples.get(i));
            }
            if (good) {
                all.add(c);
            }
        }
        return all;
    }

    private List<int[]> valid(State of) {
        return colourings(of.n, of.equations, of.pins);
    }

    private static int indexOf(List<int[]> all, int[] c) {
        for (int i = 0; c != null && i < all.size(); i++) {
            if (Arrays.equals(all.get(i), c)) {
                return i;
            }
        }
        return NONE;
    }

    private int settle(State of) {
        List<int[]> all = valid(of);
        if (indexOf(all, of.colours) == NONE) {
            of.colours = all.isEmpty() ? null : all.get(0).clone();
        }
        return all.size();
    }

    private void act(State next) {
        past.addLast(s);
        if (past.size() > 14) {
            past.removeFirst();
        }
        s = next;
    }

    // ---- the task

    int write(int letter) {
        if (letter < 0 || letter > 255) {
            return OUTSIDE;
        }
        if (text.length() >= 60) {
            return FULL;
        }
        text.append((char) letter);
        return text.length();
    }

    int wipe() {
        int had = text.length();
        text.setLength(0);
        return had;
    }

    /** The task of a whole text, or null. */
    private static State parse(String t) {
        if (!t.matches("R(0[1-9]|10)[23](e[1-4a-d][1-4a-d][1-4a-d][=!]|p[0-9][0-9][0-2])*")) {
            return null;
        }
        State r = new State();
        r.n = Integer.parseInt(t.substring(1, 3));
        int colours = t.charAt(3) - '0';
        int at = 4;
        while (at < t.length()) {
            if (t.charAt(at) == 'e') {
                r.equations.add(new int[] {factor(t.charAt(at + 1)), factor(t.charAt(at + 2)),
                    factor(t.charAt(at + 3)), t.charAt(at + 4) == '!' ? 1 : 0});
                at += 5;
            } else {
                int number = Integer.parseInt(t.substring(at + 1, at + 3));
                int pin = t.charAt(at + 3) - '0';
                if (number < 1 || number > r.n || r.pins[number] != NONE || pin >= colours) {
                    return null;
                }
                r.pins[number] = pin;
                at += 4;
            }
        }
        return r.equations.size() > 4 ? null : r;
    }

    private static int factor(char letter) {
        return letter <= '4' ? letter - '0' : -(letter - 'a' + 1);
    }

    private static boolean begins(String t) {
        List<String> ends = new ArrayList<>(List.of("", "R012", "012", "12", "02", "2", "111=", "11=", "1=", "=", "0"));
        for (int d = 0; d < 10; d++) {
            ends.add(d + "0");
            ends.add("0" + d + "0");
        }
        ends.add("100");
        for (String end : ends) {
            if (parse(t + end) != null) {
                return true;
            }
        }
        return false;
    }

    int fault() {
        String t = text.toString();
        if (parse(t) != null) {
            return NONE;
        }
        for (int i = 0; i < t.length(); i++) {
            if (!begins(t.substring(0, i + 1))) {
                return i;
            }
        }
        return t.length();
    }

    int task() {
        State r = parse(text.toString());
        if (r == null) {
            return STATE;
        }
        s = r;
        k = text.charAt(3) - '0';
        past.clear();
        Arrays.fill(slots, null);
        return settle(s);
    }

    private static boolean regular(int[] e) {
        int[] parts = {e[0], e[1], -e[2]};
        for (int set = 1; set < 8; set++) {
            int sum = 0;
            for (int i = 0; i < 3; i++) {
                sum += (set >> i & 1) * parts[i];
            }
            if (sum == 0) {
                return true;
            }
        }
        return false;
    }

    int equation(int equation, int what) {
        if (equation < 0 || equation >= s.equations.size()) {
            return UNKNOWN;
        }
        if (what < 0 || what > 5) {
            return OUTSIDE;
        }
        int[] e = s.equations.get(equation);
        return what < 3 ? e[what] + 10 : what == 3 ? e[3] : what == 4 ? regular(e) ? 1 : 0 : solutions(e, s.n).size();
    }

    int solution(int equation, int i) {
        if (equation < 0 || equation >= s.equations.size()) {
            return UNKNOWN;
        }
        List<int[]> all = solutions(s.equations.get(equation), s.n);
        return i < 0 || i >= all.size() ? NONE : 10000 * all.get(i)[0] + 100 * all.get(i)[1] + all.get(i)[2];
    }

    private int possible(State of, int number) {
        int set = 0;
        for (int[] c : valid(of)) {
            set |= 1 << c[number - 1];
        }
        return set;
    }

    int number(int number, int what) {
        if (number < 1 || number > s.n) {
            return UNKNOWN;
        }
        if (what < 0 || what > 3) {
            return OUTSIDE;
        }
        if (what == 0) {
            return s.colours == null ? NONE : s.colours[number - 1];
        }
        int set = possible(s, number);
        return what == 1 ? s.pins[number] : what == 2 ? set : Integer.bitCount(set) == 1 ? 1 : 0;
    }

    // ---- acts

    int go(int colouring) {
        List<int[]> all = valid(s);
        if (colouring < 0 || colouring >= all.size()) {
            return UNKNOWN;
        }
        State next = s.twin();
        next.colours = all.get(colouring).clone();
        int changed = 0;
        for (int i = 0; i < s.n; i++) {
            changed += next.colours[i] != s.colours[i] ? 1 : 0;
        }
        act(next);
        return changed;
    }

    /** The state after the painting, or null with the code in refusal. */
    private int refusal;

    private State painted(State of, int number, int colour) {
        refusal = number < 1 || number > of.n ? UNKNOWN : colour < 0 || colour >= k ? OUTSIDE
            : of.colours == null || of.colours[number - 1] == colour ? STATE : 0;
        if (refusal != 0) {
            return null;
        }
        State next = of.twin();
        next.colours[number - 1] = colour;
        if (indexOf(valid(of), next.colours) == NONE) {
            refusal = STATE;
            return null;
        }
        return next;
    }

    int paint(int number, int colour) {
        State next = painted(s, number, colour);
        if (next == null) {
            return refusal;
        }
        act(next);
        return indexOf(valid(s), s.colours);
    }

    private State reached(State of, int n) {
        if (n < 1 || n > 10) {
            refusal = OUTSIDE;
            return null;
        }
        State next = of.twin();
        next.n = n;
        for (int i = n + 1; i <= 10; i++) {
            next.pins[i] = NONE;
        }
        settle(next);
        return next;
    }

    int reach(int n) {
        State next = reached(s, n);
        if (next == null) {
            return refusal;
        }
        act(next);
        return valid(s).size();
    }

    int add(int a, int b, int c, int apart) {
        if (a < -4 || a > 4 || a == 0 || b < -4 || b > 4 || b == 0 || c < -4 || c > 4 || c == 0) {
            return OUTSIDE;
        }
        if (apart != 0 && apart != 1) {
            return OUTSIDE;
        }
        if (s.equations.size() == 4) {
            return FULL;
        }
        State next = s.twin();
        next.equations.add(new int[] {a, b, c, apart});
        act(next);
        return settle(next);
    }

    int drop() {
        if (s.equations.isEmpty()) {
            return STATE;
        }
        State next = s.twin();
        next.equations.remove(next.equations.size() - 1);
        act(next);
        return settle(next);
    }

    private State pinned(State of, int number, int colour) {
        refusal = number < 1 || number > of.n ? UNKNOWN : colour != 9 && (colour < 0 || colour >= k) ? OUTSIDE : 0;
        if (refusal != 0) {
            return null;
        }
        State next = of.twin();
        next.pins[number] = colour == 9 ? NONE : colour;
        settle(next);
        return next;
    }

    int pin(int number, int colour) {
        State next = pinned(s, number, colour);
        if (next == null) {
            return refusal;
        }
        act(next);
        return valid(s).size();
    }

    int undo() {
        if (past.isEmpty()) {
            return STATE;
        }
        s = past.removeLast();
        return past.size();
    }

    // ---- questions

    private int limit(State of) {
        for (int n = 1; n <= 10; n++) {
            if (colourings(n, of.equations, blank()).isEmpty()) {
                return n;
            }
        }
        return NONE;
    }

    private int deadEnds() {
        int dead = 0;
        for (int n = 0; n < s.n; n++) {
            List<int[]> longer = colourings(n + 1, s.equations, upTo(n + 1));
            for (int[] c : n == 0 ? List.of(new int[0]) : colourings(n, s.equations, upTo(n))) {
                boolean goesOn = false;
                for (int[] l : longer) {
                    goesOn = goesOn || Arrays.equals(Arrays.copyOf(l, n), c);
                }
                dead += goesOn ? 0 : 1;
            }
        }
        return dead;
    }

    private int[] upTo(int n) {
        int[] pins = s.pins.clone();
        Arrays.fill(pins, n + 1, 11, NONE);
        return pins;
    }

    private int kinds() {
        TreeSet<String> names = new TreeSet<>();
        for (int[] c : valid(s)) {
            StringBuilder name = new StringBuilder();
            for (int i = 0; i < c.length; i++) {
                for (int j = 0; j < i; j++) {
                    name.append(c[i] == c[j] ? '=' : '#');
                }
            }
            names.add(name.toString());
        }
        return names.size();
    }

    int ask(int what) {
        switch (what) {
            case 0:
                return valid(s).size();
            case 1:
                return indexOf(valid(s), s.colours);
            case 2:
                return limit(s);
            case 3:
                int forced = 0;
                for (int i = 1; i <= s.n; i++) {
                    forced |= Integer.bitCount(possible(s, i)) == 1 ? 1 << i : 0;
                }
                return forced;
            case 4:
                int pairs = 0;
                for (int i = 1; i <= s.n; i++) {
                    for (int c = 0; c < k; c++) {
                        pairs += painted(s, i, c) == null ? 0 : 1;
                    }
                }
                return pairs;
            case 5:
                return kinds();
            case 6:
                return deadEnds();
            default:
                return OUTSIDE;
        }
    }

    int on() {
        if (s.n == 10 || s.colours == null) {
            return STATE;
        }
        int set = 0;
        for (int c = 0; c < k; c++) {
            int[] longer = Arrays.copyOf(s.colours, s.n + 1);
            longer[s.n] = c;
            boolean good = true;
            for (int[] e : s.equations) {
                for (int[] t : solutions(e, s.n + 1)) {
                    good = good && !oneColour(longer, t);
                }
            }
            set |= good ? 1 << c : 0;
        }
        return set;
    }

    int judge(int n, long row) {
        if (n < 1 || n > 4 || row < 0 || Long.toString(row).length() > 4 * n) {
            return OUTSIDE;
        }
        String digits = String.format("%0" + 4 * n + "d", row);
        State trial = s;
        for (int i = 0; i < n; i++) {
            trial = after(trial, digits.substring(4 * i, 4 * i + 4));
            if (trial == null) {
                return i;
            }
        }
        return NONE;
    }

    /** The trial after the doing, or null if it is impossible or not true. */
    private State after(State trial, String doing) {
        int middle = Integer.parseInt(doing.substring(1, 3));
        int last = doing.charAt(3) - '0';
        int rest = Integer.parseInt(doing.substring(1));
        boolean holds = false;
        switch (doing.charAt(0)) {
            case '1':
                return painted(trial, middle, last);
            case '2':
                return pinned(trial, middle, last);
            case '3':
                return doing.charAt(1) == '0' ? reached(trial, rest) : null;
            case '4':
                holds = valid(trial).size() == rest;
                break;
            case '5':
                holds = middle >= 1 && middle <= trial.n && possible(trial, middle) == 1 << last;
                break;
            case '6':
                holds = middle == 0 && last < trial.equations.size() && regular(trial.equations.get(last));
                break;
            case '7':
                holds = doing.charAt(1) == '0' && limit(trial) == (rest == 0 ? NONE : rest);
                break;
            default:
                break;
        }
        return holds ? trial : null;
    }

    // ---- observations

    int see(int a, int b, int was) {
        if (a < 1 || a > 10 || b < 1 || b > 10 || a == b || was != 0 && was != 1) {
            return OUTSIDE;
        }
        if (seen.size() == 6) {
            return FULL;
        }
        seen.add(new int[] {a, b, was});
        return seen.size();
    }

    int unsee() {
        int had = seen.size();
        seen.clear();
        return had;
    }

    int which(int what) {
        if (what != 0 && what != 1) {
            return OUTSIDE;
        }
        int agreeing = 0;
        int lowest = NONE;
        List<int[]> all = valid(s);
        for (int i = all.size() - 1; i >= 0; i--) {
            boolean agrees = true;
            for (int[] o : seen) {
                if (o[0] <= s.n && o[1] <= s.n) {
                    agrees = agrees && (all.get(i)[o[0] - 1] == all.get(i)[o[1] - 1]) == (o[2] == 1);
                }
            }
            agreeing += agrees ? 1 : 0;
            lowest = agrees ? i : lowest;
        }
        return what == 0 ? agreeing : lowest;
    }

    // ---- shares and probabilities

    private static int part(BigInteger above, BigInteger below, boolean upper) {
        BigInteger divisor = above.gcd(below);
        return (upper ? above : below).divide(divisor).intValueExact();
    }

    private long decreases;
    private long orders;

    private void orders(List<Integer> order, int equation) {
        int m = s.equations.size();
        if (order.size() == m) {
            orders++;
            List<int[]> some = new ArrayList<>();
            for (int e : order) {
                int before = colourings(s.n, some, s.pins).size();
                some.add(s.equations.get(e));
                if (e == equation) {
                    decreases += before - colourings(s.n, some, s.pins).size();
                }
            }
            return;
        }
        for (int e = 0; e < m; e++) {
            if (!order.contains(e)) {
                order.add(e);
                orders(order, equation);
                order.remove(order.size() - 1);
            }
        }
    }

    int share(int equation, boolean upper) {
        if (equation < 0 || equation >= s.equations.size()) {
            return UNKNOWN;
        }
        decreases = 0;
        orders = 0;
        orders(new ArrayList<>(), equation);
        return part(BigInteger.valueOf(decreases), BigInteger.valueOf(orders), upper);
    }

    int luck(boolean upper) {
        return part(BigInteger.valueOf(valid(s).size()), BigInteger.valueOf(k).pow(s.n), upper);
    }

    int lost(int x, boolean upper) {
        if (x < 0 || x > 10) {
            return OUTSIDE;
        }
        BigInteger sum = BigInteger.ZERO;
        int m = s.equations.size();
        for (int set = 0; set < 1 << m; set++) {
            List<int[]> some = new ArrayList<>();
            long weight = 1;
            for (int e = 0; e < m; e++) {
                if ((set >> e & 1) == 1) {
                    some.add(s.equations.get(e));
                    weight *= 10 - x;
                } else {
                    weight *= x;
                }
            }
            if (!colourings(s.n, some, s.pins).isEmpty()) {
                sum = sum.add(BigInteger.valueOf(weight));
            }
        }
        return part(sum, BigInteger.TEN.pow(m), upper);
    }

    long seed(long v) {
        long before = seed;
        seed = v;
        return before;
    }

    int drawn(int m) {
        if (m < 1 || m > 9) {
            return OUTSIDE;
        }
        int sum = 0;
        for (int time = 0; time < m; time++) {
            int[] c = new int[s.n];
            int number = 1;
            while (number <= s.n && greedy(c, number)) {
                number++;
            }
            sum += number - 1;
        }
        return sum;
    }

    private boolean greedy(int[] c, int number) {
        seed = seed * 6364136223846793005L + 1442695040888963407L;
        long v = seed >>> 33;
        for (int i = 0; i < k; i++) {
            int colour = (int) ((v + i) % k);
            c[number - 1] = colour;
            boolean good = s.pins[number] == NONE || s.pins[number] == colour;
            for (int[] e : s.equations) {
                for (int[] t : solutions(e, number)) {
                    good = good && !oneColour(c, t);
                }
            }
            if (good) {
                return true;
            }
        }
        return false;
    }

    // ---- slots and counts

    int keep(int slot) {
        if (slot != 0 && slot != 1) {
            return UNKNOWN;
        }
        slots[slot] = s.twin();
        return s.n;
    }

    int again(int slot) {
        if (slot != 0 && slot != 1) {
            return UNKNOWN;
        }
        if (slots[slot] == null) {
            return STATE;
        }
        s = slots[slot].twin();
        past.clear();
        return s.n;
    }

    int count(int what) {
        int pins = 0;
        for (int pin : s.pins) {
            pins += pin == NONE ? 0 : 1;
        }
        int[] counts = {text.length(), s.n, k, s.equations.size(), pins, past.size(), seen.size()};
        return what < 0 || what > 6 ? OUTSIDE : counts[what];
    }
}
