/** Promises 22 to 29: shares, probabilities, drawing, slots and counts. */
final class ShareTest {
    private static final int MIN = Integer.MIN_VALUE, MAX = Integer.MAX_VALUE;

    private ShareTest() {
    }

    public static void main(String[] args) {
        promise22();
        promise23();
        promise24();
        promise25();
        promise26();
        drawnOrder();
        promise27();
        promise28();
        promise29();
        Check.end("ShareTest");
    }

    private static void shareIs(AvoidColours x, int equation, int above, int below) {
        Check.same("22: share(" + equation + ", true)", x.share(equation, true), above);
        Check.same("22: share(" + equation + ", false)", x.share(equation, false), below);
    }

    private static void promise22() {
        // One equation has the whole decrease: of 16 colourings 2 are left.
        shareIs(Check.of("R042e111="), 0, 14, 1);
        // The same equation twice: each has half.
        AvoidColours twice = Check.of("R022e111=e111=");
        shareIs(twice, 0, 1, 1);
        shareIs(twice, 1, 1, 1);
        AvoidColours thrice = Check.of("R022e111=e111=e111=");
        shareIs(thrice, 0, 2, 3);
        shareIs(thrice, 2, 2, 3);
        // x + y = 2z leaves none, x + y = z leaves 2 of 4: (4 + 2) / 2 and (2 + 0) / 2.
        AvoidColours x = Check.of("R022e112=e111=e222!");
        shareIs(x, 0, 3, 1);
        shareIs(x, 1, 1, 1);
        shareIs(x, 2, 0, 1);
        Check.same("22: share(3)", x.share(3, true), -1);
        Check.same("22: share(-1)", x.share(-1, false), -1);
        Check.same("22: share(MAX)", x.share(MAX, false), -1);
        x.pin(1, 0);
        shareIs(x, 0, 3, 2);
        shareIs(x, 1, 1, 2);
        // With 4: 24 orders.
        AvoidColours four = Check.of("R012e112=e112=e112=e112=");
        shareIs(four, 3, 1, 2);
        shareIs(Check.of("R103e112=e112=e112=e112="), 0, 59049, 4);
        // 300 of the colourings of 1 to 10 in three colours are valid.
        shareIs(Check.of("R103e111="), 0, 59049 - 300, 1);
        Check.same("22: no act", x.count(5), 1);
    }

    private static void luckIs(String text, int above, int below) {
        AvoidColours x = Check.of(text);
        Check.same("23: luck(true) of " + text, x.luck(true), above);
        Check.same("23: luck(false) of " + text, x.luck(false), below);
    }

    private static void promise23() {
        luckIs("R012", 1, 1);
        luckIs("R103", 1, 1);
        luckIs("R042e111=", 1, 8);
        luckIs("R052e111=", 0, 1);
        luckIs("R022p010", 1, 2);
        luckIs("R023e111=", 2, 3);
        luckIs("R103p010p020p030p040p050p060p070p080p090p100", 1, 59049);
        luckIs("R102p010p020p030p040p050p060p070p080p090p100", 1, 1024);
    }

    private static void lostIs(AvoidColours x, int tenths, int above, int below) {
        Check.same("24: lost(" + tenths + ", true)", x.lost(tenths, true), above);
        Check.same("24: lost(" + tenths + ", false)", x.lost(tenths, false), below);
    }

    private static void promise24() {
        AvoidColours x = Check.of("R052e111=e112=");
        lostIs(x, 0, 0, 1);
        lostIs(x, 10, 1, 1);
        lostIs(x, 1, 1, 100);
        lostIs(x, 5, 1, 4);
        lostIs(x, 8, 16, 25);
        lostIs(Check.of("R022e111=e121!p010"), 0, 1, 1);
        // x + y = z and x + y = 3z leave none only together.
        AvoidColours pair = Check.of("R042e111=e113=");
        lostIs(pair, 0, 0, 1);
        lostIs(pair, 3, 51, 100);
        lostIs(pair, 5, 3, 4);
        // Only x + y = 2z hurts: it goes with 3 / 10.
        lostIs(Check.of("R022e112=e111=e222!e444!"), 3, 3, 10);
        lostIs(Check.of("R012e112=e112=e112=e112="), 1, 1, 10000);
        lostIs(Check.of("R103"), 3, 1, 1);
        lostIs(new AvoidColours(), 0, 1, 1);
        Check.same("24: lost(-1)", x.lost(-1, true), -2);
        Check.same("24: lost(11)", x.lost(11, false), -2);
        Check.same("24: lost(MIN)", x.lost(MIN, false), -2);
        Check.same("24: lost(MAX)", x.lost(MAX, true), -2);
    }

    private static void promise25() {
        AvoidColours x = new AvoidColours();
        Check.same("25: seed(1)", x.seed(1), 0);
        Check.same("25: seed(MIN)", x.seed(Long.MIN_VALUE), 1);
        Check.same("25: seed(MAX)", x.seed(Long.MAX_VALUE), Long.MIN_VALUE);
        Check.same("25: seed(0)", x.seed(0), Long.MAX_VALUE);
        Check.text(x, "R052");
        x.seed(9);
        x.task();
        x.reach(3);
        x.undo();
        Check.same("25: only drawing changes it", x.seed(0), 9);
    }

    private static long after(long seed, int steps) {
        long s = seed;
        for (int i = 0; i < steps; i++) {
            s = s * 6364136223846793005L + 1442695040888963407L;
        }
        return s;
    }

    private static void promise26() {
        AvoidColours x = Check.of("R103");
        x.seed(123);
        Check.same("26: drawn(1)", x.drawn(1), 10);
        Check.same("26: ten steps", x.seed(123), after(123, 10));
        Check.same("26: drawn(9)", x.drawn(9), 90);
        Check.same("26: ninety steps", x.seed(0), after(123, 90));
        Check.same("26: drawn(0)", x.drawn(0), -2);
        Check.same("26: drawn(10)", x.drawn(10), -2);
        Check.same("26: drawn(MIN)", x.drawn(MIN), -2);
        Check.same("26: drawn(MAX)", x.drawn(MAX), -2);
        Check.same("26: the seed stays then", x.seed(0), 0);
        // The number 1 itself gets none: one step each time.
        AvoidColours none = Check.of("R052e112=");
        none.seed(-7);
        Check.same("26: none gets a colour", none.drawn(3), 0);
        Check.same("26: three steps", none.seed(0), after(-7, 3));
        // 1 and 2 pinned alike: 2 gets none.
        AvoidColours pins = Check.of("R052e111=p010p020");
        pins.seed(5);
        Check.same("26: the pins bind", pins.drawn(4), 4);
        Check.same("26: eight steps", pins.seed(0), after(5, 8));
        Check.same("26: the colouring stays", pins.ask(1), -9);
    }

    /** With x + y = z in two colours 1, 2 and 4 go a b a; 3 is free, and dead for 4 if it is a. */
    private static void drawnOrder() {
        AvoidColours x = Check.of("R042e111=");
        for (long seed = -40; seed < 40; seed++) {
            int one = (int) ((after(seed, 1) >>> 33) % 2);
            int three = (int) ((after(seed, 3) >>> 33) % 2);
            x.seed(seed);
            Check.same("26: drawn(1) from " + seed, x.drawn(1), three == one ? 3 : 4);
            Check.same("26: seed from " + seed, x.seed(0), after(seed, 4));
        }
        // In three colours: the number 2 takes the colour after that of 1 in the circle if v hits that.
        AvoidColours y = Check.of("R033e111=p032");
        for (long seed = -40; seed < 40; seed++) {
            int one = (int) ((after(seed, 1) >>> 33) % 3);
            int two = (int) ((after(seed, 2) >>> 33) % 3);
            two = two == one ? (two + 1) % 3 : two;
            y.seed(seed);
            Check.same("26: three colours from " + seed, y.drawn(1), 3);
            Check.same("26: two differs", one == two ? 1 : 0, 0);
        }
        // 1 + 2 = 3 apart: 3 is pinned, so it fails exactly if 1 and 2 both took its colour.
        for (long seed = -200; seed < 200; seed++) {
            AvoidColours z = Check.of("R033e111!p032");
            int one = (int) ((after(seed, 1) >>> 33) % 3);
            int two = (int) ((after(seed, 2) >>> 33) % 3);
            z.seed(seed);
            Check.same("26: pinned from " + seed, z.drawn(1), one == 2 && two == 2 ? 2 : 3);
        }
    }

    private static void promise27() {
        AvoidColours x = Check.of("R042e111=p010");
        Check.same("27: keep(0)", x.keep(0), 4);
        x.reach(3);
        Check.same("27: keep(1)", x.keep(1), 3);
        Check.same("27: keep(2)", x.keep(2), -1);
        Check.same("27: keep(-1)", x.keep(-1), -1);
        Check.same("27: keep(MIN)", x.keep(MIN), -1);
        Check.same("27: keep(MAX)", x.keep(MAX), -1);
        Check.same("27: the acts stay", x.count(5), 1);
        Check.same("27: again(0)", x.again(0), 4);
        x.reach(7);
        Check.same("27: keep(0) in its place", x.keep(0), 7);
        x.reach(2);
        Check.same("27: again(1)", x.again(1), 3);
        Check.same("27: again(0) later", x.again(0), 7);
    }

    private static void promise28() {
        AvoidColours x = Check.of("R042e111=p011");
        Check.same("28: again(0) of nothing", x.again(0), -3);
        Check.same("28: again(1) of nothing", x.again(1), -3);
        Check.same("28: again(2)", x.again(2), -1);
        Check.same("28: again(-1)", x.again(-1), -1);
        x.pin(1, 9);
        x.go(1);
        x.keep(1);
        x.drop();
        x.reach(2);
        x.pin(2, 1);
        Check.same("28: acts before", x.count(5), 5);
        Check.same("28: again(1)", x.again(1), 4);
        Check.same("28: acts after", x.count(5), 0);
        Check.same("28: undo()", x.undo(), -3);
        Check.same("28: the equation", x.count(3), 1);
        Check.same("28: no pins", x.count(4), 0);
        Check.same("28: the colouring", x.ask(1), 1);
        Check.same("28: its colour", x.number(1, 0), 1);
        x.drop();
        Check.same("28: an act after", x.undo(), 0);
        Check.same("28: the slot keeps them", x.again(1), 4);
        Check.same("28: a refusal leaves the acts", x.go(0), 4);
        Check.same("28: again(0) still nothing", x.again(0), -3);
        Check.same("28: acts", x.count(5), 1);
    }

    private static void promise29() {
        AvoidColours x = Check.of("R073e111=e123!p010p072");
        x.go(4);
        x.see(1, 9, 1);
        x.see(2, 9, 1);
        x.see(3, 9, 0);
        x.write('x');
        long[] due = {23, 7, 3, 2, 2, 1, 3};
        for (int what = 0; what < due.length; what++) {
            Check.same("29: count(" + what + ")", x.count(what), due[what]);
        }
        Check.same("29: count(7)", x.count(7), -2);
        Check.same("29: count(-1)", x.count(-1), -2);
        Check.same("29: count(MIN)", x.count(MIN), -2);
        Check.same("29: count(MAX)", x.count(MAX), -2);
        Check.same("29: UNKNOWN", AvoidColours.UNKNOWN, -1);
        Check.same("29: OUTSIDE", AvoidColours.OUTSIDE, -2);
        Check.same("29: STATE", AvoidColours.STATE, -3);
        Check.same("29: FULL", AvoidColours.FULL, -4);
        Check.same("29: NONE", AvoidColours.NONE, -9);
    }
}
