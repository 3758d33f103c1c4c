/** The sentences of promises 22 to 29, and of the description about fractions, that name a bound. */
final class ShareEdgeTest {
    private static final long FACTOR = 6364136223846793005L, STEP = 1442695040888963407L;

    private ShareEdgeTest() {
    }

    public static void main(String[] args) {
        shareRefused();
        shareValues();
        sharesMakeUpTheDecrease();
        luck();
        lostRefused();
        lostValues();
        seed();
        drawnRefused();
        drawnNumbers();
        drawnColours();
        drawnWithOverflow();
        drawnChangesTheSeedOnly();
        keep();
        again();
        againRestores();
        slotsStay();
        count();
        countAtTheBounds();
        Check.end("ShareEdgeTest");
    }

    private static void shareRefused() {
        Script.run("UNKNOWN if there is no such equation", "! share(0, true) -1; ! share(0, false) -1; R042e111=; "
            + "! share(-1, true) -1; ! share(0, true) 14; ! share(1, true) -1; ! share(1, false) -1; "
            + "! share(MIN, true) -1; ! share(MAX, false) -1");
        Script.run("UNKNOWN at four equations", "R022e111=e111=e111=e222!; share(3, true) 0; share(3, false) 1; "
            + "! share(4, true) -1; ! share(4, false) -1; share(0, true) 2; share(0, false) 3; drop() 2; "
            + "! share(3, true) -1");
    }

    private static void fraction(String sentence, String scene, String call, int above, int below) {
        Script.run(sentence, scene + "! " + part(call, true) + " " + above + "; ! " + part(call, false) + " " + below);
    }

    private static String part(String call, boolean upper) {
        return call.replace(")", (call.endsWith("()") ? "" : ", ") + upper + ")");
    }

    private static void shareValues() {
        fraction("0 is 0 / 1", "R042e11a=; ", "share(0)", 0, 1);
        fraction("0 is 0 / 1 beside others", "R042e111=e11a=e111!; ", "share(1)", 0, 1);
        fraction("One equation has the whole decrease", "R103e112=; ", "share(0)", 59049, 1);
        fraction("In lowest terms", "R012e112=e112=e112=e112=; ", "share(2)", 1, 2);
        fraction("In lowest terms, a denominator of 3", "R013e112=e111=e112=e112=; ", "share(0)", 1, 1);
        fraction("The greatest numerator", "R103e112=e112=e112=e112=; ", "share(3)", 59049, 4);
        fraction("All orders being equally likely, the first of three", "R022e112=e111=e111=; ", "share(0)", 8, 3);
        fraction("All orders being equally likely, the second of three", "R022e112=e111=e111=; ", "share(1)", 2, 3);
        fraction("With the pins as they are", "R042e111=p010; ", "share(0)", 7, 1);
        fraction("With N as it is", "R102e111=; reach(2) 2; ", "share(0)", 2, 1);
        fraction("With K as it is", "R023e111=; ", "share(0)", 3, 1);
        fraction("0 for an equation without solutions beside three others", "R022e112=e111=e111=e333!; reach(3) 0; "
            + "undo() 0; ", "share(3)", 0, 1);
    }

    /** The shares of all equations together are all that is lost. */
    private static void sharesMakeUpTheDecrease() {
        String[] texts = {"R042e111=", "R063e111=e112!", "R052e111!e112!ea22!", "R083e111=eb21=e113!e112!",
            "R102e121=e242=e111!ea22!p031", "R033e112=e111=e123=e444!p010"};
        for (String text : texts) {
            AvoidColours x = Check.of(text);
            long sum = 0;
            for (int e = 0; e < x.count(3); e++) {
                int below = x.share(e, false);
                Check.yes("22: a denominator that divides 24 in " + text, below > 0 && 24 % below == 0);
                sum += 24L / Math.max(1, below) * x.share(e, true);
            }
            int left = x.ask(0);
            long all = Math.round(Math.pow(x.count(2), x.count(1) - x.count(4)));
            Check.same("22: the shares together in " + text, sum, 24 * (all - left));
        }
    }

    private static void luck() {
        fraction("1 is 1 / 1", "", "luck()", 1, 1);
        fraction("0 is 0 / 1", "R103e112=; ", "luck()", 0, 1);
        fraction("In lowest terms", "R042e111=; ", "luck()", 1, 8);
        fraction("In lowest terms of three colours", "R033e111!; ", "luck()", 8, 9);
        fraction("The greatest denominator", "R103p010p021p030p042p050p061p070p080p090p100; ", "luck()", 1, 59049);
        fraction("The greatest denominator of two colours", "R102p010p021p030p041p050p061p070p080p090p100; ", "luck()", 1, 1024);
        fraction("A pin has its probability", "R013p012; ", "luck()", 1, 3);
        fraction("With a pin and a solution", "R102e431!p010; ", "luck()", 3, 8);
        fraction("All but few", "R102e431!; ", "luck()", 3, 4);
    }

    private static void lostRefused() {
        Script.run("OUTSIDE if x is out of range", "R052e111=; ! lost(-1, true) -2; ! lost(-1, false) -2; "
            + "! lost(0, true) 0; ! lost(0, false) 1; ! lost(10, true) 1; ! lost(10, false) 1; ! lost(11, true) -2; "
            + "! lost(11, false) -2; ! lost(MIN, true) -2; ! lost(MAX, false) -2");
    }

    private static void lostValues() {
        for (int x = 0; x <= 10; x++) {
            String call = "lost(" + x + ")";
            fraction("1 / 1 without equations", "", call, 1, 1);
            fraction("1 / 1 if there is a colouring with all", "R042e111=e11a=; ", call, 1, 1);
        }
        int[][] tenths = {{0, 1}, {1, 10}, {1, 5}, {3, 10}, {2, 5}, {1, 2}, {3, 5}, {7, 10}, {4, 5}, {9, 10}, {1, 1}};
        int[][] squares = {{0, 1}, {1, 100}, {1, 25}, {9, 100}, {4, 25}, {1, 4}, {9, 25}, {49, 100}, {16, 25}, {81, 100}, {1, 1}};
        for (int x = 0; x <= 10; x++) {
            fraction("One that must go", "R052e111=; ", "lost(" + x + ")", tenths[x][0], tenths[x][1]);
            fraction("One of two must go", "R052e11a=e111=; ", "lost(" + x + ")", tenths[x][0], tenths[x][1]);
            fraction("Both must go", "R012e112=e112=; ", "lost(" + x + ")", squares[x][0], squares[x][1]);
        }
        fraction("The greatest denominator", "R012e112=e112=e112=e112=; ", "lost(1)", 1, 10000);
        fraction("The greatest denominator, nearly 1", "R042e111=e113=e113=e113=; ", "lost(1)", 1009, 10000);
        fraction("All four at 9 / 10", "R012e112=e112=e112=e112=; ", "lost(9)", 6561, 10000);
        fraction("With the pins as they are", "R022e111=p010p020; ", "lost(7)", 7, 10);
        fraction("With the pins of one colour each", "R022e111=p010p021; ", "lost(7)", 1, 1);
    }

    private static void seed() {
        Script.run("Sets the seed, returns the seed before", "seed(1) 0; seed(-1) 1; seed(MIN) -1; seed(MAX) "
            + Long.MIN_VALUE + "; seed(0) " + Long.MAX_VALUE + "; ! seed(0) 0");
        Script.run("The seed is a long", "seed(4294967296) 0; seed(-4294967297) 4294967296; seed(2147483648) -4294967297; "
            + "seed(7) 2147483648");
    }

    private static void drawnRefused() {
        Script.run("OUTSIDE if m is out of range", "seed(3) 0; ! drawn(0) -2; ! drawn(-1) -2; ! drawn(10) -2; "
            + "! drawn(MIN) -2; ! drawn(MAX) -2; drawn(1) 1; seed(0) " + after(3, 1) + "; drawn(9) 9; seed(0) " + after(0,
            9));
    }

    private static long after(long seed, int steps) {
        long s = seed;
        for (int i = 0; i < steps; i++) {
            s = s * FACTOR + STEP;
        }
        return s;
    }

    /** The seed from which this many steps lead to a seed. */
    private static long before(long seed, int steps) {
        long inverse = FACTOR;
        for (int i = 0; i < 6; i++) {
            inverse *= 2 - FACTOR * inverse;
        }
        long s = seed;
        for (int i = 0; i < steps; i++) {
            s = (s - STEP) * inverse;
        }
        return s;
    }

    private static void drawnNumbers() {
        Script.run("Until N has one", "R103; drawn(9) 90; seed(0) " + after(0, 90) + "; R012; drawn(9) 9; seed(0) "
            + after(0, 9));
        Script.run("Until one gets none", "R103e112=; drawn(9) 0; seed(0) " + after(0, 9) + "; "
            + "R103e111=p010p021p030p041p051; drawn(2) 6; seed(0) " + after(0, 8));
        Script.run("The number N gets none", "R022e111=p010p020; drawn(5) 5; seed(0) " + after(0, 10));
        Script.run("A number with a pin has its step too", "R042p010p021p031p040; drawn(3) 12; seed(0) " + after(0, 12));
        Script.run("Whose numbers are at most this number: a pin above is nothing to it",
            "R022e111=p020; seed(" + before(0, 1) + ") 0; drawn(1) 1; seed(" + before(1L << 33, 1) + ") " + after(0, 1)
                + "; drawn(1) 2");
    }

    /**
     * With x + 2y = 2z the numbers 1 and 2 and the numbers 2 and 3 must differ, and 1 and 3 have pins:
     * what drawn() answers tells whether 2 got the pin of 3. The second step leads to the seed told.
     */
    private static void colourOfTwo(int k, long second, int pinOfOne, int due) {
        for (int pinOfThree = 0; pinOfThree < k; pinOfThree++) {
            String scene = "R03" + k + "e122=p01" + pinOfOne + "p03" + pinOfThree + "; ";
            Script.run("The first colour from v on that fits", scene + "seed(" + before(second, 2) + ") 0; drawn(1) "
                + (due == pinOfThree ? 2 : 3)
                + "; seed(0) " + after(second, 1));
        }
    }

    private static void drawnColours() {
        // The seeds differ in the lowest of the upper 31 bits, or only below it.
        long[] seeds = {0, (1L << 33) - 1, 1L << 33, (2L << 33) - 1, 2L << 33, 3L << 33, 4L << 33, 5L << 33};
        int[] v = {0, 0, 1, 1, 2, 3, 4, 5};
        for (int i = 0; i < seeds.length; i++) {
            for (int pin = 0; pin < 3; pin++) {
                colourOfTwo(3, seeds[i], pin, v[i] % 3 == pin ? (v[i] + 1) % 3 : v[i] % 3);
            }
            colourOfTwo(2, seeds[i], 0, 1);
            colourOfTwo(2, seeds[i], 1, 0);
        }
        Script.run("v modulo 2, without a pin of 1", "R032e122=p030; seed(" + before(0, 2) + ") 0; drawn(1) 2");
        for (int second = 0; second < 3; second++) {
            int one = (int) ((before((long) second << 33, 1) >>> 33) % 3);
            int two = second == one ? (second + 1) % 3 : second;
            Script.run("v modulo 3, without a pin of 1", "R033e122=p032; seed(" + before((long) second << 33, 2) + ") 0; "
                + "drawn(1) " + (two == 2 ? 2 : 3));
        }
    }

    private static void drawnWithOverflow() {
        // The greatest v is 2 to the 31st - 1: v + 1 and v + 2 are too great for an int.
        long greatest = -1L << 33;
        colourOfTwo(3, greatest, 0, 1);
        colourOfTwo(3, greatest, 1, 2);
        colourOfTwo(3, greatest, 2, 1);
        colourOfTwo(2, greatest, 1, 0);
        colourOfTwo(2, greatest, 0, 1);
        colourOfTwo(3, -1, 1, 2);
        colourOfTwo(3, greatest - (1L << 33), 0, 1);
        colourOfTwo(3, greatest - 1, 1, 0);
        // v = 2 to the 30th: modulo 3 that is 1.
        colourOfTwo(3, Long.MIN_VALUE, 0, 1);
        colourOfTwo(3, Long.MIN_VALUE, 1, 2);
        colourOfTwo(3, Long.MAX_VALUE, 1, 0);
        Script.run("The third colour from v on, by a pin", "R033e122=p011p020p030; seed(" + before(greatest, 2) + ") 0; "
            + "drawn(1) 2; seed(0) " + after(greatest, 1));
        Script.run("With overflow", "seed(MAX) 0; drawn(1) 1; seed(MIN) " + (Long.MAX_VALUE * FACTOR + STEP) + "; "
            + "drawn(1) 1; seed(-1) " + (Long.MIN_VALUE * FACTOR + STEP) + "; drawn(1) 1; seed(0) " + (STEP - FACTOR));
    }

    private static void drawnChangesTheSeedOnly() {
        Script.run("Nothing is changed except the seed",
            "R042e111=p031; keep(0) 4; pin(3, 9) 2; see(1, 2, 0) 1; go(1) 4; drawn(9) 31; ask(1) 1; ask(0) 2; count(4) 0; "
                + "count(5) 2; count(6) 1; count(0) 13; fault() -9; which(1) 0; undo() 1; ask(1) 0; undo() 0; "
                + "number(3, 1) 1; again(0) 4; number(3, 1) 1");
        Script.run("Without a colouring there is none after it", "R052e111=; drawn(9) 33; ask(1) -9; number(1, 0) -9; "
            + "count(5) 0");
    }

    private static void keep() {
        Script.run("UNKNOWN if there is no such slot", "! keep(-1) -1; keep(0) 1; keep(1) 1; ! keep(2) -1; ! keep(MIN) -1; "
            + "! keep(MAX) -1");
        Script.run("Returns N", "keep(0) 1; R102; keep(1) 10; keep(0) 10; R053; keep(0) 5");
        Script.run("In place of what it keeps", "keep(0) 1; reach(7) 128; keep(0) 7; again(0) 7; reach(2) 4; keep(0) 2; "
            + "again(0) 2");
        Script.run("One slot leaves the other", "reach(2) 4; keep(0) 2; reach(3) 8; keep(1) 3; reach(4) 16; again(0) 2; "
            + "again(1) 3; again(0) 2");
        Script.run("Keeping is no act", "reach(2) 4; keep(0) 2; keep(1) 2; count(5) 1; undo() 0; count(1) 1");
        Script.run("What is kept is not changed by acts", "R032p010; keep(1) 3; pin(1, 1) 4; paint(3, 1) 1; "
            + "add(1, 1, 2, 0) 0; again(1) 3; number(1, 1) 0; ask(1) 0; count(3) 0");
    }

    private static void again() {
        Script.run("UNKNOWN if there is no such slot", "keep(0) 1; keep(1) 1; reach(2) 4; ! again(-1) -1; ! again(2) -1; "
            + "! again(MIN) -1; ! again(MAX) -1; count(5) 1; again(1) 1");
        Script.run("STATE if it keeps nothing", "reach(2) 4; ! again(0) -3; ! again(1) -3; keep(1) 2; ! again(0) -3; "
            + "again(1) 2; keep(0) 2; again(0) 2");
        Script.run("UNKNOWN where nothing is kept", "! again(2) -1; ! again(-1) -1; R022; ! again(2) -1");
        Script.run("STATE after task()", "keep(0) 1; keep(1) 1; R032; ! again(0) -3; ! again(1) -3; count(1) 3");
        Script.run("A slot with N = 1 keeps something", "keep(0) 1; reach(9) 512; again(0) 1; count(1) 1; ask(0) 2");
        Script.run("Returns N", "R102; keep(0) 10; reach(3) 8; keep(1) 3; again(0) 10; again(1) 3");
    }

    private static void againRestores() {
        Script.run("N, the equations, the pins and the present colouring",
            "R042e111=e113!p041; go(0) 0; pin(4, 9) 2; go(1) 0; keep(0) 4; pin(1, 1) 1; drop() 1; drop() 8; reach(6) 32; "
                + "go(9) 2; again(0) 4; count(3) 2; equation(1, 2) 13; equation(1, 3) 1; count(4) 0; ask(0) 2; ask(1) 1; "
                + "number(1, 0) 1; number(2, 0) 0");
        Script.run("That there is no present colouring", "R052e111=; keep(0) 5; drop() 32; ask(1) 0; again(0) 5; "
            + "ask(1) -9; ask(0) 0; go(0) -1");
        Script.run("A present colouring after none", "R042e111=; go(1) 4; keep(1) 4; reach(5) 0; ask(1) -9; again(1) 4; "
            + "ask(1) 1");
        Script.run("No act can be undone then", "reach(2) 4; keep(0) 2; go(3) 2; count(5) 2; again(0) 2; count(5) 0; "
            + "! undo() -3; go(1) 1; undo() 0; ! undo() -3");
        Script.run("No act can be undone then, also of 14", Script.times(20, "reach(2) 4") + "keep(0) 2; again(0) 2; "
            + "count(5) 0; ! undo() -3; " + Script.times(15, "reach(2) 4") + "count(5) 14; undo() 13");
        Script.run("Refused, the acts can be undone", "reach(2) 4; reach(3) 8; again(0) -3; again(2) -1; count(5) 2; "
            + "undo() 1; count(1) 2");
    }

    private static void slotsStay() {
        Script.run("The slots keep them", "R032; go(5) 2; keep(0) 3; again(0) 3; go(2) 3; again(0) 3; ask(1) 5; "
            + "again(0) 3; ask(1) 5");
        Script.run("The slots keep them with undo()", "reach(3) 8; keep(0) 3; undo() 0; count(1) 1; again(0) 3; count(1) 3");
        Script.run("The seed, the text and the observations are in no slot", "R022; keep(0) 2; see(1, 2, 0) 1; seed(8) 0; "
            + "write(101) 5; again(0) 2; count(6) 1; count(0) 5; seed(0) 8; unsee() 1; again(0) 2; count(6) 0");
    }

    private static void count() {
        Script.run("OUTSIDE if what is not 0 to 6", "! count(-1) -2; ! count(0) 0; ! count(6) 0; ! count(7) -2; "
            + "! count(MIN) -2; ! count(MAX) -2");
        Script.run("The length of the text", "write(82) 1; count(0) 1; write(0) 2; count(0) 2; wipe() 2; count(0) 0");
        Script.run("N and K", "R043; count(1) 4; count(2) 3; reach(9) 19683; count(1) 9; count(2) 3; R012; count(1) 1; "
            + "count(2) 2");
        Script.run("The number of equations", "R042e222=; count(3) 1; add(1, 1, 2, 1) 2; count(3) 2; undo() 0; count(3) 1; "
            + "drop() 16; count(3) 0");
        Script.run("The number of pins", "R042p040; count(4) 1; pin(4, 1) 8; count(4) 1; pin(1, 0) 4; count(4) 2; "
            + "pin(4, 9) 8; count(4) 1; reach(3) 4; count(4) 1");
        Script.run("The number of acts and of observations", "go(1) 1; count(5) 1; see(1, 2, 0) 1; count(6) 1; count(5) 1; "
            + "undo() 0; count(5) 0; count(6) 1; unsee() 1; count(6) 0");
    }

    private static void countAtTheBounds() {
        String text = "R102p010p021p030p041p050p061p070p081p090p101e111!e431!e111!";
        Script.run("The greatest counts", text + "; 'x; " + Script.times(15, "reach(10) 0") + "see(1, 2, 0) 1; "
            + "see(1, 2, 0) 2; see(1, 2, 0) 3; see(1, 2, 0) 4; see(1, 2, 0) 5; see(1, 2, 0) 6; see(1, 2, 0) -4;"
            + "add(1, 1, 1, 1) 0; add(1, 1, 1, 1) -4; count(0) 60; count(1) 10; count(2) 2; count(3) 4; count(4) 10; "
                + "count(5) 14; count(6) 6");
    }
}
