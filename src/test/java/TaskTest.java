/** Promises 1 to 8: the new object, the text and the task. */
final class TaskTest {
    private static final int MIN = Integer.MIN_VALUE, MAX = Integer.MAX_VALUE;

    private TaskTest() {
    }

    public static void main(String[] args) {
        promise1();
        promise2();
        promise3();
        promise4Head();
        promise4Equations();
        promise4Pins();
        promise4Full();
        promise5();
        promise6();
        promise7();
        promise8();
        Check.end("TaskTest");
    }

    private static void promise1() {
        AvoidColours x = new AvoidColours();
        long[] counts = {0, 1, 2, 0, 0, 0, 0};
        for (int what = 0; what < counts.length; what++) {
            Check.same("1: count(" + what + ")", x.count(what), counts[what]);
        }
        Check.same("1: ask(0)", x.ask(0), 2);
        Check.same("1: ask(1)", x.ask(1), 0);
        Check.same("1: number(1, 0)", x.number(1, 0), 0);
        Check.same("1: number(1, 1)", x.number(1, 1), -9);
        Check.same("1: which(0)", x.which(0), 2);
        Check.same("1: undo()", x.undo(), -3);
        Check.same("1: again(0)", x.again(0), -3);
        Check.same("1: again(1)", x.again(1), -3);
        Check.same("1: fault()", x.fault(), 0);
        Check.same("1: seed(5)", x.seed(5), 0);
    }

    private static void promise2() {
        AvoidColours x = new AvoidColours();
        Check.same("2: write(-1)", x.write(-1), -2);
        Check.same("2: write(256)", x.write(256), -2);
        Check.same("2: write(MIN)", x.write(MIN), -2);
        Check.same("2: write(MAX)", x.write(MAX), -2);
        for (int i = 1; i <= 60; i++) {
            Check.same("2: write no. " + i, x.write(i % 2 == 0 ? 0 : 255), i);
        }
        Check.same("2: write(65) when full", x.write(65), -4);
        Check.same("2: write(256) when full", x.write(256), -2);
        Check.same("2: count(0)", x.count(0), 60);
    }

    private static void promise3() {
        AvoidColours x = Check.of("R052");
        Check.same("3: wipe()", x.wipe(), 4);
        Check.same("3: wipe() again", x.wipe(), 0);
        Check.same("3: count(0)", x.count(0), 0);
        Check.same("3: the task stays", x.count(1), 5);
        Check.same("3: write after", x.write('R'), 1);
        Check.same("3: what stood there is gone", x.fault(), 1);
        x.write('0');
        x.write('5');
        Check.same("3: the rest is gone too", x.fault(), 3);
    }

    private static void faultOf(String letters, int due) {
        AvoidColours x = new AvoidColours();
        Check.text(x, letters);
        Check.same("4: fault() of " + letters, x.fault(), due);
        Check.same("4: fault() twice of " + letters, x.fault(), due);
        if (due != -9) {
            Check.same("4: task() of " + letters, x.task(), -3);
        }
    }

    private static void promise4Head() {
        faultOf("", 0);
        faultOf("x", 0);
        faultOf("r", 0);
        faultOf("R", 1);
        faultOf("R2", 1);
        faultOf("Rx", 1);
        faultOf("R0", 2);
        faultOf("R1", 2);
        faultOf("R00", 2);
        faultOf("R11", 2);
        faultOf("R0x", 2);
        faultOf("R01", 3);
        faultOf("R10", 3);
        faultOf("R091", 3);
        faultOf("R094", 3);
        faultOf("R09x", 3);
        faultOf("R012", -9);
        faultOf("R092", -9);
        faultOf("R103", -9);
        faultOf("R103x", 4);
        faultOf("R103R", 4);
        faultOf("R103" + (char) 0, 4);
        faultOf("R103" + (char) 255, 4);
    }

    private static void promise4Equations() {
        faultOf("R052e", 5);
        faultOf("R052e0", 5);
        faultOf("R052e5", 5);
        faultOf("R052ee", 5);
        faultOf("R052e`", 5);
        faultOf("R052e1", 6);
        faultOf("R052e1p", 6);
        faultOf("R052e1p011", 6);
        faultOf("R052e4d", 7);
        faultOf("R052e4dp011", 7);
        faultOf("R052e44a", 8);
        faultOf("R052e44ap011", 8);
        faultOf("R052e44a=", -9);
        faultOf("R052eabc!", -9);
        faultOf("R052ed14!", -9);
        faultOf("R052e44ax", 8);
        faultOf("R052e444=e111!e222=e333!", -9);
        faultOf("R052e444=e111!e222=e333!e", 24);
        faultOf("R052e444=e111!e222=e333!p", 25);
        faultOf("R052e444=e111!e222=e333!p011", -9);
        faultOf("R052e444=e111!p011e222=e333!e111=", 28);
    }

    private static void promise4Pins() {
        faultOf("R052p", 5);
        faultOf("R052p1", 5);
        faultOf("R052p2", 5);
        faultOf("R052pe", 5);
        faultOf("R052p0", 6);
        faultOf("R052p00", 6);
        faultOf("R052p06", 6);
        faultOf("R052p0p", 6);
        faultOf("R052p05", 7);
        faultOf("R052p052", 7);
        faultOf("R052p05/", 7);
        faultOf("R052p051", -9);
        faultOf("R053p052", -9);
        faultOf("R053p053", 7);
        faultOf("R052p051p05", 10);
        faultOf("R052p051p041e111=p010", -9);
        faultOf("R092p1", 5);
        faultOf("R102p1", 6);
        faultOf("R102p11", 6);
        faultOf("R102p101", -9);
        faultOf("R102p101p1", 9);
        faultOf("R102p101p0", 10);
        faultOf("R022p010p021", -9);
        faultOf("R022p010p021p", 12);
        faultOf("R022p010p021e", 13);
        String nine = "R103p010p021p032p040p051p062p070p081p092";
        faultOf(nine, -9);
        faultOf(nine + "p", 41);
        faultOf(nine + "p0", 41);
        faultOf(nine + "p1", 42);
        faultOf(nine + "p100", -9);
        faultOf(nine + "p100p", 44);
    }

    private static void promise4Full() {
        faultOf("R103p010p021p032p040p051p062p070p081p092e111=e123!e444=eabc!", -9);
        faultOf("R103p010p021p032p040p051p062p070p081p092p101e111=e123!e444=e", 60);
        faultOf("R103p010p021p032p040p051p062p070p081p092p101e111=e123!e444=x", 59);
    }

    private static void promise5() {
        AvoidColours x = new AvoidColours();
        x.see(1, 2, 0);
        x.seed(77);
        x.reach(4);
        x.keep(0);
        x.keep(1);
        Check.text(x, "R0");
        Check.same("5: task() with a fault", x.task(), -3);
        Check.same("5: N stays", x.count(1), 4);
        Check.same("5: acts stay", x.count(5), 1);
        Check.same("5: slot 0 stays", x.keep(0), 4);
        Check.text(x, "R053e111=e123!p031");
        Check.same("5: task()", x.task(), 22);
        long[] counts = {18, 5, 3, 2, 1, 0, 1};
        for (int what = 0; what < counts.length; what++) {
            Check.same("5: count(" + what + ")", x.count(what), counts[what]);
        }
        Check.same("5: ask(1)", x.ask(1), 0);
        Check.same("5: undo()", x.undo(), -3);
        Check.same("5: again(0)", x.again(0), -3);
        Check.same("5: again(1)", x.again(1), -3);
        Check.same("5: number(3, 1)", x.number(3, 1), 1);
        Check.same("5: seed()", x.seed(0), 77);
        x.go(3);
        Check.same("5: task() once more", x.task(), 22);
        Check.same("5: ask(1) once more", x.ask(1), 0);
        String[] sums = {"e111=", "e1a1=", "ea11=", "eaaa=", "e222="};
        for (String sum : sums) {
            Check.text(x, "R103" + sum);
            Check.same("5: task() with " + sum, x.task(), 300);
            Check.text(x, "R043e112!");
            Check.same("5: task() between", x.task(), 66);
        }
        Check.text(x, "R052e111=");
        Check.same("5: task() without colourings", x.task(), 0);
        Check.same("5: number(1, 0)", x.number(1, 0), -9);
        Check.same("5: number(3, 1) is gone", x.number(3, 1), -9);
        Check.same("5: count(3)", x.count(3), 1);
    }

    private static void promise6() {
        AvoidColours x = Check.of("R042e1b4=e111!ed12=");
        int[][] due = {{11, 8, 14, 0, 0, 0}, {11, 11, 11, 1, 1, 4}, {6, 11, 12, 0, 0, 0}};
        for (int e = 0; e < due.length; e++) {
            for (int what = 0; what < due[e].length; what++) {
                Check.same("6: equation(" + e + ", " + what + ")", x.equation(e, what), due[e][what]);
            }
            Check.same("6: what 6", x.equation(e, 6), -2);
            Check.same("6: what -1", x.equation(e, -1), -2);
        }
        Check.same("6: equation 3", x.equation(3, 0), -1);
        Check.same("6: equation 3, what 9", x.equation(3, 9), -1);
        Check.same("6: equation -1", x.equation(-1, 0), -1);
        Check.same("6: equation MAX", x.equation(MAX, MAX), -1);
        // All three, then each pair in turn.
        regularIs("134=", 1);
        regularIs("2b3=", 1);
        regularIs("313=", 1);
        regularIs("133=", 1);
        regularIs("224=", 1);
        regularIs("112=", 1);
        regularIs("113=", 0);
        regularIs("11a=", 0);
        regularIs("ab3=", 0);
        regularIs("abc=", 1);
    }

    private static void regularIs(String equation, int due) {
        Check.same("6: regular " + equation, Check.of("R012e" + equation).equation(0, 4), due);
    }

    private static void promise7() {
        AvoidColours x = Check.of("R042e111=e111!e1b4=");
        int[] all = {10102, 10203, 10304, 20103, 20204, 30104};
        for (int i = 0; i < all.length; i++) {
            Check.same("7: solution(0, " + i + ")", x.solution(0, i), all[i]);
        }
        Check.same("7: solution(0, 6)", x.solution(0, 6), -9);
        int[] apart = {10203, 10304, 20103, 30104};
        for (int i = 0; i < apart.length; i++) {
            Check.same("7: solution(1, " + i + ")", x.solution(1, i), apart[i]);
        }
        Check.same("7: solution(1, 4)", x.solution(1, 4), -9);
        Check.same("7: solution(2, 0) is x = 2y + 4z never", x.solution(2, 0), -9);
        Check.same("7: solution(0, -1)", x.solution(0, -1), -9);
        Check.same("7: solution(0, MIN)", x.solution(0, MIN), -9);
        Check.same("7: solution(0, MAX)", x.solution(0, MAX), -9);
        Check.same("7: solution(3, 0)", x.solution(3, 0), -1);
        Check.same("7: solution(3, -1)", x.solution(3, -1), -1);
        Check.same("7: solution(-1, 0)", x.solution(-1, 0), -1);
        Check.same("7: x - y = z", Check.of("R032e1a1=").solution(0, 0), 20101);
        Check.same("6: solutions up to 10", Check.of("R102e111=").equation(0, 5), 45);
        Check.same("6: with 10 as x", Check.of("R102e1d1=").equation(0, 5), 8);
        Check.same("7: 10 digits", Check.of("R102e112=").solution(0, 49), 101010);
    }

    private static void promise8() {
        AvoidColours x = Check.of("R043e111=p011");
        x.go(1);
        Check.same("8: number(1, 0)", x.number(1, 0), 1);
        Check.same("8: number(2, 0)", x.number(2, 0), 0);
        Check.same("8: number(1, 1)", x.number(1, 1), 1);
        Check.same("8: number(2, 1)", x.number(2, 1), -9);
        Check.same("8: number(1, 2)", x.number(1, 2), 2);
        Check.same("8: number(2, 2)", x.number(2, 2), 5);
        Check.same("8: number(3, 2)", x.number(3, 2), 7);
        Check.same("8: number(1, 3)", x.number(1, 3), 1);
        Check.same("8: number(2, 3)", x.number(2, 3), 0);
        Check.same("8: number(4, 4)", x.number(4, 4), -2);
        Check.same("8: number(4, -1)", x.number(4, -1), -2);
        Check.same("8: number(5, 9)", x.number(5, 9), -1);
        Check.same("8: number(0, 0)", x.number(0, 0), -1);
        Check.same("8: number(MIN, 0)", x.number(MIN, 0), -1);
        Check.same("6: with 10 as y", Check.of("R102ed11=").equation(0, 5), 8);
        Check.same("6: apart, x is z", Check.of("R022e3a1!").equation(0, 5), 0);
        Check.same("6: apart, y is z", Check.of("R022ea31!").equation(0, 5), 0);
        Check.same("6: apart, x is y", Check.of("R022e112!").equation(0, 5), 0);
        AvoidColours ten = Check.of("R103e111=p102");
        Check.same("8: number(10, 1)", ten.number(10, 1), 2);
        Check.same("8: number(10, 2)", ten.number(10, 2), 4);
        Check.same("8: number(10, 3)", ten.number(10, 3), 1);
        Check.same("8: number(11, 0)", ten.number(11, 0), -1);
        AvoidColours none = Check.of("R052e111=");
        Check.same("8: without colourings, 0", none.number(1, 0), -9);
        Check.same("8: without colourings, 2", none.number(1, 2), 0);
        Check.same("8: without colourings, 3", none.number(1, 3), 0);
    }
}
