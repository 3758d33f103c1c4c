/** Promises 9 to 15: the acts and undoing them. */
final class ActTest {
    private static final int MIN = Integer.MIN_VALUE, MAX = Integer.MAX_VALUE;

    private ActTest() {
    }

    public static void main(String[] args) {
        promise9();
        promise10();
        promise11();
        promise12();
        promise13();
        promise14();
        promise15();
        latestFourteen();
        Check.end("ActTest");
    }

    /** The colours of 1 to N as decimal digits. */
    private static void coloursAre(String when, AvoidColours x, int due) {
        int digits = 0;
        for (int number = 1; number <= x.count(1); number++) {
            digits = 10 * digits + x.number(number, 0);
        }
        Check.same("colours " + when, digits, due);
    }

    private static void promise9() {
        // Without equations the numbers of the colourings are the colours read as a number.
        AvoidColours x = Check.of("R033");
        Check.same("9: go(5)", x.go(5), 2);
        coloursAre("9: of 5", x, 12);
        Check.same("9: go(5) again", x.go(5), 0);
        Check.same("9: go(26)", x.go(26), 2);
        coloursAre("9: of 26", x, 222);
        Check.same("9: go(27)", x.go(27), -1);
        Check.same("9: go(-1)", x.go(-1), -1);
        Check.same("9: go(MIN)", x.go(MIN), -1);
        Check.same("9: go(MAX)", x.go(MAX), -1);
        Check.same("9: acts", x.count(5), 3);
        Check.same("9: ask(1)", x.ask(1), 26);
        AvoidColours none = Check.of("R052e111=");
        Check.same("9: go(0) without colourings", none.go(0), -1);
        Check.same("9: no act", none.count(5), 0);
        // x + y = z up to 4 with two colours: 0110 and 1001.
        AvoidColours schur = Check.of("R042e111=");
        Check.same("9: schur go(1)", schur.go(1), 4);
        coloursAre("9: schur", schur, 1001);
    }

    private static void promise10() {
        AvoidColours x = Check.of("R033p020");
        Check.same("10: paint(3, 2)", x.paint(3, 2), 2);
        Check.same("10: paint(1, 1)", x.paint(1, 1), 5);
        coloursAre("10: painted", x, 102);
        Check.same("10: a pinned number", x.paint(2, 1), -3);
        Check.same("10: the same colour", x.paint(1, 1), -3);
        Check.same("10: paint(0, 0)", x.paint(0, 0), -1);
        Check.same("10: paint(4, 9)", x.paint(4, 9), -1);
        Check.same("10: paint(1, 3)", x.paint(1, 3), -2);
        Check.same("10: paint(1, -1)", x.paint(1, -1), -2);
        Check.same("10: paint(1, MAX)", x.paint(1, MAX), -2);
        Check.same("10: acts", x.count(5), 2);
        AvoidColours schur = Check.of("R032e111=");
        Check.same("10: the first", schur.ask(1), 0);
        coloursAre("10: it is 010", schur, 10);
        Check.same("10: paint(1, 1) makes 1 + 1 = 2", schur.paint(1, 1), -3);
        Check.same("10: paint(3, 1)", schur.paint(3, 1), 1);
        AvoidColours none = Check.of("R052e111=");
        Check.same("10: without colourings", none.paint(1, 1), -3);
        Check.same("10: without colourings, colour 2", none.paint(1, 2), -2);
    }

    private static void promise11() {
        AvoidColours x = Check.of("R042e111=p011");
        Check.same("11: reach(3)", x.reach(3), 2);
        coloursAre("11: of 3", x, 100);
        x.go(1);
        Check.same("11: reach(3) again", x.reach(3), 2);
        coloursAre("11: the same N leaves it", x, 101);
        Check.same("11: reach(2)", x.reach(2), 1);
        coloursAre("11: of 2", x, 10);
        Check.same("11: reach(5)", x.reach(5), 0);
        Check.same("11: no colouring", x.number(1, 0), -9);
        Check.same("11: the pin of 1 stays", x.number(1, 1), 1);
        Check.same("11: reach(1)", x.reach(1), 1);
        Check.same("11: reach(5) again", x.reach(5), 0);
        Check.same("11: reach(0)", x.reach(0), -2);
        Check.same("11: reach(11)", x.reach(11), -2);
        Check.same("11: reach(MIN)", x.reach(MIN), -2);
        Check.same("11: reach(MAX)", x.reach(MAX), -2);
        Check.same("11: N", x.count(1), 5);
        Check.same("11: acts", x.count(5), 7);
        AvoidColours pins = Check.of("R102p031p041p100");
        Check.same("11: reach(3) of 10", pins.reach(3), 4);
        Check.same("11: pins left", pins.count(4), 1);
        Check.same("11: reach(10)", pins.reach(10), 512);
        Check.same("11: pins do not come back", pins.number(4, 1), -9);
        AvoidColours larger = Check.of("R052");
        larger.go(20);
        larger.reach(3);
        coloursAre("11: a smaller N begins anew", larger, 0);
    }

    private static void promise12() {
        AvoidColours x = new AvoidColours();
        x.reach(4);
        x.go(6);
        Check.same("12: add(1, 1, 1, 0)", x.add(1, 1, 1, 0), 2);
        coloursAre("12: 0110 stays", x, 110);
        Check.same("12: properties", x.equation(0, 0) + x.equation(0, 3), 11);
        x.drop();
        x.go(9);
        Check.same("12: add(1, 1, 1, 0) at 1001", x.add(1, 1, 1, 0), 2);
        coloursAre("12: 1001 stays", x, 1001);
        Check.same("12: add(4, -4, 4, 1)", x.add(4, -4, 4, 1), 2);
        Check.same("12: add(-3, 2, -1, 1)", x.add(-3, 2, -1, 1), 2);
        int[][] wrong = {{0, 1, 1, 0}, {1, 0, 1, 0}, {1, 1, 0, 0}, {5, 1, 1, 0}, {1, -5, 1, 0}, {1, 1, 5, 0},
            {1, 1, 1, 2}, {1, 1, 1, -1}, {MIN, 1, 1, 0}, {1, MAX, 1, 1}, {1, 1, 1, MAX}};
        for (int[] w : wrong) {
            Check.same("12: add out of range", x.add(w[0], w[1], w[2], w[3]), -2);
        }
        Check.same("12: the fourth", x.add(1, 1, 2, 0), 0);
        Check.same("12: no colouring", x.ask(1), -9);
        Check.same("12: the fifth", x.add(1, 1, 2, 0), -4);
        Check.same("12: the fifth out of range", x.add(1, 1, 2, 3), -2);
        Check.same("12: equations", x.count(3), 4);
        Check.same("12: acts", x.count(5), 9);
        AvoidColours other = Check.of("R042");
        other.go(3);
        other.add(1, 1, 1, 0);
        coloursAre("12: 0011 gives way to the first", other, 110);
    }

    private static void promise13() {
        AvoidColours x = Check.of("R042e111=e112=");
        Check.same("13: none at first", x.ask(1), -9);
        Check.same("13: drop()", x.drop(), 2);
        coloursAre("13: the first", x, 110);
        x.go(1);
        Check.same("13: drop() again", x.drop(), 16);
        coloursAre("13: it stays", x, 1001);
        Check.same("13: drop() of none", x.drop(), -3);
        Check.same("13: equations", x.count(3), 0);
        Check.same("13: acts", x.count(5), 3);
    }

    private static void promise14() {
        AvoidColours x = Check.of("R032");
        x.go(2);
        Check.same("14: pin(2, 1)", x.pin(2, 1), 4);
        coloursAre("14: it stays", x, 10);
        Check.same("14: pin(2, 0) in its place", x.pin(2, 0), 4);
        coloursAre("14: the first", x, 0);
        Check.same("14: pin(2, 9)", x.pin(2, 9), 8);
        Check.same("14: pin(2, 9) again", x.pin(2, 9), 8);
        Check.same("14: pin(0, 0)", x.pin(0, 0), -1);
        Check.same("14: pin(4, 5)", x.pin(4, 5), -1);
        Check.same("14: pin(1, 2)", x.pin(1, 2), -2);
        Check.same("14: pin(1, -1)", x.pin(1, -1), -2);
        Check.same("14: pin(1, 8)", x.pin(1, 8), -2);
        Check.same("14: pin(1, 10)", x.pin(1, 10), -2);
        Check.same("14: pin(MAX, 9)", x.pin(MAX, 9), -1);
        Check.same("14: acts", x.count(5), 5);
        Check.same("14: pins", x.count(4), 0);
        AvoidColours three = Check.of("R033");
        Check.same("14: pin(3, 2)", three.pin(3, 2), 9);
        Check.same("14: number(3, 1)", three.number(3, 1), 2);
        AvoidColours none = Check.of("R032e111=p010");
        Check.same("14: pin(2, 0) leaves none", none.pin(2, 0), 0);
        Check.same("14: no colouring", none.ask(1), -9);
        Check.same("14: pin(2, 9) brings them back", none.pin(2, 9), 2);
        Check.same("14: the first again", none.ask(1), 0);
    }

    private static void promise15() {
        AvoidColours x = Check.of("R042p031");
        x.go(5);
        x.paint(1, 0);
        x.reach(2);
        x.add(1, 1, 2, 1);
        x.pin(1, 1);
        x.drop();
        Check.same("15: undo drop()", x.undo(), 5);
        Check.same("15: the equation is back", x.equation(0, 2), 12);
        Check.same("15: undo pin()", x.undo(), 4);
        Check.same("15: the pin is gone", x.number(1, 1), -9);
        Check.same("15: undo add()", x.undo(), 3);
        Check.same("15: the equation is gone", x.count(3), 0);
        Check.same("15: undo reach()", x.undo(), 2);
        Check.same("15: N is back", x.count(1), 4);
        Check.same("15: the pin of 3 is back", x.number(3, 1), 1);
        coloursAre("15: after undo reach()", x, 11);
        Check.same("15: undo paint()", x.undo(), 1);
        coloursAre("15: after undo paint()", x, 1011);
        Check.same("15: undo go()", x.undo(), 0);
        coloursAre("15: after undo go()", x, 10);
        Check.same("15: nothing left", x.undo(), -3);
        Check.same("15: N stays", x.count(1), 4);
    }

    private static void latestFourteen() {
        AvoidColours x = Check.of("R052");
        for (int i = 1; i <= 20; i++) {
            x.go(i);
            Check.same("15: acts after " + i, x.count(5), Math.min(i, 14));
        }
        for (int left = 13; left >= 11; left--) {
            Check.same("15: undo()", x.undo(), left);
        }
        Check.same("15: ask(1)", x.ask(1), 17);
        x.go(30);
        Check.same("15: acts", x.count(5), 12);
        for (int left = 11; left >= 0; left--) {
            Check.same("15: undo()", x.undo(), left);
        }
        Check.same("15: the seventh act cannot be undone", x.ask(1), 6);
        Check.same("15: undo() of none", x.undo(), -3);
    }
}
