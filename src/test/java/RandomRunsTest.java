import java.util.Random;

/** Random runs of all methods, each answer compared with that of the dull model Slow. */
final class RandomRunsTest {
    private static final int[] ODD = {Integer.MIN_VALUE, -5, -1, 0, 1, 2, 3, 4, 9, 10, 11, 99, 256, Integer.MAX_VALUE};

    /** What an object answers after its 512th call is free; a text takes many calls at once. */
    private static final int MOST_CALLS = 512, MOST_AT_ONCE = 50;

    private final Random random;
    private final int mostN;
    private final AvoidColours fast = new AvoidColours();
    private final Slow slow = new Slow();
    private String call = "";
    private int used;

    private RandomRunsTest(long start, int mostN) {
        random = new Random(start);
        this.mostN = mostN;
    }

    public static void main(String[] args) {
        int runs = args.length > 0 ? Integer.parseInt(args[0]) : 600;
        for (int run = 0; run < runs; run++) {
            int calls = run % 20 == 0 ? 60 : 512;
            new RandomRunsTest(run, run % 20 == 0 ? 10 : 3 + run % 5).go(run, calls);
        }
        Check.end("RandomRunsTest");
    }

    private void go(int run, int calls) {
        for (int i = 0; i < calls && used < MOST_CALLS - MOST_AT_ONCE; i++) {
            int method = random.nextInt(40);
            used++;
            long[] both = random.nextInt(12) == 0 ? oddCall(method) : call(method);
            Check.same("random run " + run + ", call " + i + ": " + call, both[0], both[1]);
        }
    }

    private int below(int bound) {
        return random.nextInt(bound);
    }

    private int sign() {
        return (random.nextBoolean() ? 1 : -1) * (1 + below(random.nextBoolean() ? 2 : 4));
    }

    private long[] both(String text, long a, long b) {
        call = text;
        return new long[] {a, b};
    }

    private long[] call(int method) {
        boolean upper = random.nextBoolean();
        int number = 1 + below(mostN);
        int colour = below(3);
        switch (method) {
            case 0:
            case 1:
                return writeText();
            case 2:
                return both("wipe()", fast.wipe(), slow.wipe());
            case 3:
                return both("fault()", fast.fault(), slow.fault());
            case 4:
                return both("task()", fast.task(), slow.task());
            case 5:
                int e = below(5);
                int what = below(6);
                return both("equation(" + e + ", " + what + ")", fast.equation(e, what), slow.equation(e, what));
            case 6:
                e = below(4);
                int i = below(12);
                return both("solution(" + e + ", " + i + ")", fast.solution(e, i), slow.solution(e, i));
            case 7:
            case 8:
                what = below(4);
                return both("number(" + number + ", " + what + ")", fast.number(number, what), slow.number(number, what));
            case 9:
            case 10:
                int go = below(1 + Math.max(1, slow.ask(0)));
                return both("go(" + go + ")", fast.go(go), slow.go(go));
            case 11:
            case 12:
            case 13:
                return both("paint(" + number + ", " + colour + ")", fast.paint(number, colour), slow.paint(number, colour));
            case 14:
                return both("reach(" + number + ")", fast.reach(number), slow.reach(number));
            case 15:
            case 16:
                int a = sign();
                int b = sign();
                int c = sign();
                int apart = below(2);
                return both("add(" + a + ", " + b + ", " + c + ", " + apart + ")",
                    fast.add(a, b, c, apart), slow.add(a, b, c, apart));
            case 17:
                return both("drop()", fast.drop(), slow.drop());
            case 18:
            case 19:
                int pin = random.nextBoolean() ? 9 : colour;
                return both("pin(" + number + ", " + pin + ")", fast.pin(number, pin), slow.pin(number, pin));
            case 20:
            case 21:
                return both("undo()", fast.undo(), slow.undo());
            case 22:
            case 23:
            case 24:
            case 25:
                what = below(7);
                return both("ask(" + what + ")", fast.ask(what), slow.ask(what));
            case 26:
                return both("on()", fast.on(), slow.on());
            default:
                return laterCall(method, upper);
        }
    }

    private long[] laterCall(int method, boolean upper) {
        switch (method) {
            case 27:
            case 28:
            case 29:
                int n = 1 + below(4);
                long row = row(n);
                return both("judge(" + n + ", " + row + ")", fast.judge(n, row), slow.judge(n, row));
            case 30:
                int a = 1 + below(mostN + (mostN < 10 ? 1 : 0));
                int b = 1 + below(mostN);
                int was = below(2);
                return both("see(" + a + ", " + b + ", " + was + ")", fast.see(a, b, was), slow.see(a, b, was));
            case 31:
                return below(3) != 0 ? both("count(6)", fast.count(6), slow.count(6))
                    : both("unsee()", fast.unsee(), slow.unsee());
            case 32:
                int what = below(2);
                return both("which(" + what + ")", fast.which(what), slow.which(what));
            case 33:
                int e = below(4);
                return both("share(" + e + ", " + upper + ")", fast.share(e, upper), slow.share(e, upper));
            case 34:
                return both("luck(" + upper + ")", fast.luck(upper), slow.luck(upper));
            case 35:
                int x = below(11);
                return both("lost(" + x + ", " + upper + ")", fast.lost(x, upper), slow.lost(x, upper));
            case 36:
                long v = random.nextLong();
                return both("seed(" + v + ")", fast.seed(v), slow.seed(v));
            case 37:
                int m = 1 + below(9);
                return both("drawn(" + m + ")", fast.drawn(m), slow.drawn(m));
            case 38:
                int slot = below(2);
                return below(3) == 0 ? both("again(" + slot + ")", fast.again(slot), slow.again(slot))
                    : both("keep(" + slot + ")", fast.keep(slot), slow.keep(slot));
            default:
                what = below(7);
                return both("count(" + what + ")", fast.count(what), slow.count(what));
        }
    }

    /** Arguments from everywhere. */
    private long[] oddCall(int method) {
        int a = odd();
        int b = odd();
        int c = odd();
        int d = odd();
        switch (method % 16) {
            case 0:
                return both("write(" + a + ")", fast.write(a), slow.write(a));
            case 1:
                return both("equation(" + a + ", " + b + ")", fast.equation(a, b), slow.equation(a, b));
            case 2:
                return both("solution(" + a + ", " + b + ")", fast.solution(a, b), slow.solution(a, b));
            case 3:
                return both("number(" + a + ", " + b + ")", fast.number(a, b), slow.number(a, b));
            case 4:
                return both("go(" + a + ")", fast.go(a), slow.go(a));
            case 5:
                return both("paint(" + a + ", " + b + ")", fast.paint(a, b), slow.paint(a, b));
            case 6:
                a = a > mostN ? 11 : a;
                return both("reach(" + a + ")", fast.reach(a), slow.reach(a));
            case 7:
                return both("add(" + a + ", " + b + ", " + c + ", " + d + ")", fast.add(a, b, c, d), slow.add(a, b, c, d));
            case 8:
                return both("pin(" + a + ", " + b + ")", fast.pin(a, b), slow.pin(a, b));
            case 9:
                return both("ask(" + a + ")", fast.ask(a), slow.ask(a));
            case 10:
                long row = random.nextLong() >> below(64);
                return both("judge(" + a + ", " + row + ")", fast.judge(a, row), slow.judge(a, row));
            case 11:
                return both("see(" + a + ", " + b + ", " + c + ")", fast.see(a, b, c), slow.see(a, b, c));
            case 12:
                return both("which(" + a + ")", fast.which(a), slow.which(a));
            case 13:
                return both("share(" + a + ", true)", fast.share(a, true), slow.share(a, true));
            case 14:
                return both("lost(" + a + ", true)", fast.lost(a, true), slow.lost(a, true));
            default:
                used += 3;
                return both("drawn " + a, fast.drawn(a) + 100L * fast.keep(b) + 10000L * fast.again(c) + 1000000L * fast.count(d),
                    slow.drawn(a) + 100L * slow.keep(b) + 10000L * slow.again(c) + 1000000L * slow.count(d));
        }
    }

    private int odd() {
        return ODD[below(ODD.length)];
    }

    private long row(int n) {
        long row = 0;
        for (int i = 0; i < n; i++) {
            row = 10000 * row + doing();
        }
        return row;
    }

    private int doing() {
        int number = 1 + below(mostN);
        switch (below(9)) {
            case 0:
            case 1:
                return 1000 + 10 * number + below(3);
            case 2:
                return 2000 + 10 * number + (random.nextBoolean() ? 9 : below(3));
            case 3:
                return 3000 + number;
            case 4:
                return 4000 + Math.min(999, Math.max(0, slow.ask(0) + (below(3) == 0 ? 1 : 0)));
            case 5:
                return 5000 + 10 * number + below(3);
            case 6:
                return 6000 + below(3);
            case 7:
                return 7000 + Math.max(0, slow.ask(2));
            default:
                return below(10000);
        }
    }

    /** Writes a text with some likeness to one of a task, with a fault now and then. */
    private long[] writeText() {
        String text = randomText();
        fast.wipe();
        slow.wipe();
        long a = 0;
        long b = 0;
        for (char letter : text.toCharArray()) {
            used++;
            a = 3 * a + fast.write(letter);
            b = 3 * b + slow.write(letter);
        }
        used++;
        return both("the text " + text, 100 * a + fast.fault(), 100 * b + slow.fault());
    }

    private String randomText() {
        int n = 1 + below(mostN);
        StringBuilder text = new StringBuilder(n == 10 ? "R10" : "R0" + n).append(2 + below(2));
        int parts = below(7);
        for (int i = 0; i < parts; i++) {
            if (below(2) == 0) {
                text.append('e');
                for (int j = 0; j < 3; j++) {
                    text.append("12341212abcd".charAt(below(12)));
                }
                text.append("=!".charAt(below(2)));
            } else {
                int number = 1 + below(n);
                text.append('p').append(number / 10).append(number % 10).append(below(2));
            }
        }
        if (below(3) == 0) {
            text.setCharAt(below(text.length()), "R0123459abcdep=!x".charAt(below(17)));
        }
        if (below(8) == 0) {
            text.setLength(below(text.length() + 1));
        }
        return text.toString();
    }
}
