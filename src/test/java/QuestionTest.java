/** Promises 16 to 21: questions, judging and observations. */
final class QuestionTest {
    private static final int MIN = Integer.MIN_VALUE, MAX = Integer.MAX_VALUE;

    private QuestionTest() {
    }

    public static void main(String[] args) {
        promise16();
        limits();
        kinds();
        deadEnds();
        promise17();
        promise18Acts();
        promise18Statements();
        promise18Wrong();
        promise19();
        promise20();
        promise21();
        Check.end("QuestionTest");
    }

    private static void asked(String text, int... due) {
        AvoidColours x = Check.of(text);
        for (int what = 0; what < due.length; what++) {
            Check.same("16: ask(" + what + ") of " + text, x.ask(what), due[what]);
        }
    }

    private static void promise16() {
        // 0110 and 1001 are valid; 010 and 101 are the dead ends.
        asked("R042e111=", 2, 0, 5, 0, 0, 1, 2);
        asked("R042e111=p010", 1, 0, 5, 30, 0, 1, 1);
        asked("R052e111=", 0, -9, 5, 0, 0, 0, 4);
        asked("R012", 2, 0, -9, 0, 1, 1, 0);
        asked("R023", 9, 0, -9, 0, 4, 2, 0);
        asked("R023p012", 3, 0, -9, 2, 2, 2, 0);
        AvoidColours x = Check.of("R032e111=");
        Check.same("16: ask(4) at 010", x.ask(4), 1);
        x.go(1);
        Check.same("16: ask(1) at 011", x.ask(1), 1);
        Check.same("16: ask(-1)", x.ask(-1), -2);
        Check.same("16: ask(7)", x.ask(7), -2);
        Check.same("16: ask(MIN)", x.ask(MIN), -2);
        Check.same("16: no act", x.count(5), 1);
    }

    private static void limitIs(String text, int due) {
        Check.same("16: limit of " + text, Check.of(text).ask(2), due);
    }

    private static void limits() {
        limitIs("R012e111=", 5);
        limitIs("R102e111=", 5);
        limitIs("R012e111=p010", 5);
        limitIs("R012e111!", 9);
        limitIs("R013e111=", -9);
        limitIs("R012e112=", 1);
        limitIs("R012e112!", 9);
        limitIs("R012e11a=", -9);
        limitIs("R012", -9);
        limitIs("R012e12a=e111=", 5);
    }

    private static void kinds() {
        asked("R033p010p021", 3, 0, -9, 6, 2, 3);
        // Two and three blocks of 1 to 4: 1 + 7 + 6.
        Check.same("16: kinds of 4 in 3", Check.of("R043").ask(5), 14);
        Check.same("16: kinds of 4 in 2", Check.of("R042").ask(5), 8);
        Check.same("16: kinds with 1 and 2 alike", Check.of("R042p010p020").ask(5), 4);
        Check.same("16: kinds with 1 and 2 different", Check.of("R042p010p021").ask(5), 4);
        Check.same("16: kinds with 4 pinned", Check.of("R043p042").ask(5), 14);
        Check.same("16: kinds of 10 in 3", Check.of("R103").ask(5), 9842);
    }

    private static void deadEnds() {
        Check.same("16: x + y = 2z, empty is dead", Check.of("R032e112=").ask(6), 1);
        // 1 + 1 = 2 with both pinned alike: the colouring 0 of 1 is dead.
        Check.same("16: dead by a pin", Check.of("R022e111=p010p020").ask(6), 1);
        Check.same("16: one by a pin", Check.of("R022e111=p020").ask(6), 1);
        Check.same("16: none", Check.of("R022e111=").ask(6), 0);
    }

    private static void promise17() {
        AvoidColours x = Check.of("R032e111=");
        Check.same("17: on() at 010", x.on(), 0);
        x.go(1);
        Check.same("17: on() at 011", x.on(), 1);
        Check.same("17: on() in three colours", Check.of("R033e111=").on(), 4);
        Check.same("17: on() without equations", Check.of("R093").on(), 7);
        Check.same("17: on() of 10", Check.of("R103").on(), -3);
        Check.same("17: on() without colouring", Check.of("R052e111=").on(), -3);
        Check.same("17: a pin of N does not bind", Check.of("R012p011").on(), 3);
    }

    private static void judged(AvoidColours x, int n, long row, int due) {
        Check.same("18: judge(" + n + ", " + row + ")", x.judge(n, row), due);
    }

    private static void promise18Acts() {
        AvoidColours x = Check.of("R042e111=p010");
        judged(x, 1, 1021, 0);
        judged(x, 4, 2019_3003_1031_4004L, -9);
        judged(x, 4, 2019_3003_1031_1031L, 3);
        judged(x, 2, 2011_4001, -9);
        judged(x, 2, 2011_4002, 1);
        judged(x, 3, 3005_4000_3004L, -9);
        judged(x, 3, 3010_4000_1010L, 2);
        judged(x, 1, 3000, 0);
        judged(x, 1, 3011, 0);
        judged(x, 1, 3104, 0);
        judged(x, 1, 2050, 0);
        judged(x, 1, 2000, 0);
        judged(x, 1, 2012, 0);
        judged(x, 1, 2049, -9);
        judged(x, 2, 3010_2100, -9);
        judged(x, 1, 1012, 0);
        judged(x, 1, 1051, 0);
        Check.same("18: N stays", x.count(1), 4);
        Check.same("18: the pin stays", x.number(1, 1), 0);
        Check.same("18: the colouring stays", x.number(2, 0), 1);
        Check.same("18: acts", x.count(5), 0);
        AvoidColours y = Check.of("R022");
        y.go(3);
        judged(y, 4, 1010_1020_1021_1011L, -9);
        judged(y, 1, 1011, 0);
        Check.same("18: 11 stays", y.ask(1), 3);
    }

    private static void promise18Statements() {
        AvoidColours x = Check.of("R042e111=e113!p010");
        judged(x, 1, 4000, 0);
        judged(x, 1, 4001, -9);
        judged(x, 1, 5010, -9);
        judged(x, 1, 5011, 0);
        judged(x, 1, 5021, -9);
        judged(x, 1, 5022, 0);
        judged(x, 1, 5029, 0);
        judged(x, 1, 5050, 0);
        judged(x, 1, 5000, 0);
        judged(x, 1, 5990, 0);
        judged(x, 2, 2019_5021, 1);
        judged(x, 1, 6000, -9);
        judged(x, 1, 6001, 0);
        judged(x, 1, 6002, 0);
        judged(x, 1, 6009, 0);
        judged(x, 1, 6010, 0);
        judged(x, 1, 6100, 0);
        judged(x, 1, 7005, -9);
        judged(x, 1, 7000, 0);
        judged(x, 1, 7004, 0);
        judged(x, 1, 7105, 0);
        judged(Check.of("R013e111="), 1, 7000, -9);
        judged(Check.of("R013e111="), 1, 7100, 0);
        judged(Check.of("R062"), 1, 4064, -9);
        judged(Check.of("R102"), 1, 4024, 0);
        judged(Check.of("R063p010"), 1, 4243, -9);
    }

    private static void promise18Wrong() {
        AvoidColours x = new AvoidColours();
        judged(x, 0, 0, -2);
        judged(x, 5, 0, -2);
        judged(x, -1, 4002, -2);
        judged(x, MIN, 4002, -2);
        judged(x, MAX, 4002, -2);
        judged(x, 1, -1, -2);
        judged(x, 1, 9999, 0);
        judged(x, 1, 10000, -2);
        judged(x, 2, 4002_4002, -9);
        judged(x, 2, 1_0000_0000L, -2);
        judged(x, 3, 1_0000_0000_0000L, -2);
        judged(x, 4, 9999_9999_9999_9999L, 0);
        judged(x, 4, 1_0000_0000_0000_0000L, -2);
        judged(x, 4, Long.MAX_VALUE, -2);
        judged(x, 4, Long.MIN_VALUE, -2);
        judged(x, 2, 4002, 0);
        judged(x, 1, 0, 0);
        judged(x, 1, 8000, 0);
        judged(x, 4, 4002_4002_4002_9999L, 3);
    }

    private static void promise19() {
        AvoidColours x = new AvoidColours();
        int[][] wrong = {{0, 1, 0}, {1, 0, 0}, {11, 1, 0}, {1, 11, 0}, {3, 3, 1}, {1, 2, 2}, {1, 2, -1},
            {MIN, 1, 0}, {1, MAX, 1}, {1, 2, MAX}};
        for (int[] w : wrong) {
            Check.same("19: see out of range", x.see(w[0], w[1], w[2]), -2);
        }
        for (int i = 1; i <= 6; i++) {
            Check.same("19: see no. " + i, x.see(11 - i, i == 5 ? 5 : i, i % 2), i);
        }
        Check.same("19: the seventh", x.see(1, 2, 0), -4);
        Check.same("19: the seventh out of range", x.see(1, 1, 0), -2);
        Check.same("19: count(6)", x.count(6), 6);
        AvoidColours ends = new AvoidColours();
        Check.same("19: see(1, 10, 1)", ends.see(1, 10, 1), 1);
        Check.same("19: see(10, 1, 0)", ends.see(10, 1, 0), 2);
    }

    private static void promise20() {
        AvoidColours x = Check.of("R032");
        Check.same("20: unsee() of none", x.unsee(), 0);
        x.see(1, 2, 1);
        x.see(2, 3, 0);
        Check.same("20: which(0) before", x.which(0), 2);
        Check.same("20: unsee()", x.unsee(), 2);
        Check.same("20: which(0) after", x.which(0), 8);
        Check.same("20: count(6)", x.count(6), 0);
        Check.same("20: see() after", x.see(1, 3, 0), 1);
    }

    private static void promise21() {
        AvoidColours x = Check.of("R032");
        Check.same("21: which(0)", x.which(0), 8);
        Check.same("21: which(1)", x.which(1), 0);
        x.see(1, 3, 0);
        Check.same("21: which(0), 1 and 3 different", x.which(0), 4);
        Check.same("21: which(1), 001", x.which(1), 1);
        x.see(3, 2, 1);
        Check.same("21: which(0), 2 and 3 alike", x.which(0), 2);
        Check.same("21: which(1), 011", x.which(1), 3);
        x.see(4, 1, 0);
        x.see(4, 3, 0);
        Check.same("21: 4 is ignored", x.which(0), 2);
        x.reach(4);
        Check.same("21: 4 counts now", x.which(0), 0);
        AvoidColours alike = Check.of("R032");
        alike.see(4, 1, 1);
        alike.see(10, 9, 1);
        Check.same("21: 4 and 10 are ignored", alike.which(0), 8);
        alike.reach(4);
        Check.same("21: 4 is as 1", alike.which(0), 8);
        alike.reach(10);
        Check.same("21: 10 is as 9", alike.which(0), 256);
        Check.same("21: none", x.which(1), -9);
        Check.text(x, "R103");
        x.task();
        Check.same("21: a new task keeps them", x.count(6), 4);
        // 1, 2 = 3 and 4 have three different colours.
        Check.same("21: in three colours", x.which(0), 6 * 729);
        Check.same("21: 0112000000", x.which(1), 14 * 729);
        x.pin(1, 2);
        Check.same("21: with a pin", x.which(1), 729);
        Check.same("21: which(2)", x.which(2), -2);
        Check.same("21: which(-1)", x.which(-1), -2);
        Check.same("21: which(MAX)", x.which(MAX), -2);
    }
}
