/** The sentences of promises 9 to 15, and of the description about acts, that name a bound. */
final class ActEdgeTest {
    private ActEdgeTest() {
    }

    public static void main(String[] args) {
        go();
        paint();
        paintRefused();
        reach();
        reachPins();
        addOutside();
        addFull();
        drop();
        pin();
        pinRefused();
        actsWithoutEffect();
        refusedCallsAreNoActs();
        undo();
        undoEachKind();
        latestFourteen();
        undoneAndDoneAgain();
        ringGoesRound();
        changedEquations();
        Check.end("ActEdgeTest");
    }

    private static void go() {
        Script.run("UNKNOWN if there is no such valid colouring",
            "R023; ! go(-1) -1; go(0) 0; go(8) 2; ! go(9) -1; ! go(10) -1; ! go(MIN) -1; ! go(MAX) -1; ask(1) 8");
        Script.run("UNKNOWN with equations", "R042e111=; ! go(-1) -1; go(1) 4; ! go(2) -1; ! go(15) -1; ask(1) 1");
        Script.run("UNKNOWN with pins", "R042p011; go(7) 3; ! go(8) -1; ask(1) 7; number(4, 0) 1");
        Script.run("UNKNOWN if there are none", "R052e111=; ! go(0) -1; ! go(-1) -1; ! go(1) -1; ask(1) -9");
        Script.run("The last of the most colourings", "R103; go(59048) 10; ! go(59049) -1; number(1, 0) 2; go(59047) 1; "
            + "number(10, 0) 1");
        Script.run("Returns how many numbers have another colour", "R033; go(0) 0; go(13) 3; go(13) 0; go(14) 1; go(11) 1; "
            + "go(2) 1; go(18) 2");
        Script.run("All numbers of 10 have another colour", "R102; go(1023) 10; go(341) 5; go(682) 10; go(682) 0");
        Script.run("This is an act", "R032; go(5) 2; count(5) 1; go(5) 0; count(5) 2; undo() 1; ask(1) 5; undo() 0; ask(1) 0");
    }

    private static void paint() {
        Script.run("Returns the number of the present colouring then",
            "R033; paint(1, 2) 18; paint(3, 1) 19; paint(2, 2) 25; paint(1, 0) 7; paint(3, 0) 6; paint(2, 0) 0");
        Script.run("Returns the number among the valid ones only", "R032e111=; paint(3, 1) 1; paint(3, 0) 0; R032p021; "
            + "paint(1, 1) 2; paint(3, 1) 3");
        Script.run("Gives only this number another colour", "R102; paint(10, 1) 1; paint(1, 1) 513; number(2, 0) 0; "
            + "number(9, 0) 0; ask(1) 513");
        Script.run("A pin of the same colour allows it", "R022; go(0) 0; pin(2, 0) 2; paint(1, 1) 1; number(2, 0) 0");
        Script.run("This is an act", "R022; paint(2, 1) 1; count(5) 1; paint(2, 0) 0; count(5) 2; undo() 1; ask(1) 1; "
            + "undo() 0; ask(1) 0");
    }

    private static void paintRefused() {
        Script.run("UNKNOWN if there is no such number",
            "R032; ! paint(0, 1) -1; paint(1, 1) 4; paint(3, 1) 5; ! paint(4, 1) -1; ! paint(-1, 1) -1; "
                + "! paint(MIN, 1) -1; ! paint(MAX, 1) -1");
        Script.run("UNKNOWN at N = 10", "R102; ! paint(11, 1) -1; paint(10, 1) 1");
        Script.run("OUTSIDE if there is no such colour",
            "R032; ! paint(2, -1) -2; ! paint(2, 2) -2; ! paint(2, 9) -2; ! paint(2, MIN) -2; ! paint(2, MAX) -2; paint(2, 1) 2");
        Script.run("OUTSIDE at K = 3", "R033; ! paint(2, -1) -2; paint(2, 2) 6; ! paint(2, 3) -2; ! paint(2, 9) -2");
        Script.run("UNKNOWN before OUTSIDE", "R032; ! paint(0, -1) -1; ! paint(4, 2) -1; ! paint(4, 9) -1");
        Script.run("UNKNOWN before STATE", "R052e111=; ! paint(0, 0) -1; ! paint(6, 1) -1; R032; ! paint(4, 0) -1");
        Script.run("OUTSIDE before STATE", "R052e111=; ! paint(1, 2) -2; ! paint(5, -1) -2; R022p010; ! paint(1, 2) -2");
        Script.run("STATE if there is no present colouring", "R052e111=; ! paint(1, 0) -3; ! paint(1, 1) -3; ! paint(5, 0) -3");
        Script.run("STATE if the number has this colour already", "! paint(1, 0) -3; paint(1, 1) 1; ! paint(1, 1) -3; "
            + "R033p022; ! paint(2, 2) -3");
        Script.run("STATE if a pin is against it", "R032p020; ! paint(2, 1) -3; paint(1, 1) 2; pin(2, 9) 8; paint(2, 1) 6");
        Script.run("STATE if a solution would have one colour", "R042e111=; ! paint(1, 1) -3; ! paint(2, 0) -3; "
            + "! paint(3, 0) -3; ! paint(4, 1) -3");
        Script.run("STATE if a distinct solution would have one colour",
            "R033e111!; go(0) 0; number(3, 0) 1; ! paint(3, 0) -3; paint(3, 2) 1; paint(1, 1) 10; paint(3, 0) 8");
        Script.run("STATE by the last of four equations", "R022e444=e333!e222!e111=; go(0) 0; ! paint(2, 0) -3; "
            + "! paint(1, 1) -3; ask(4) 0");
    }

    private static void reach() {
        Script.run("OUTSIDE if n is out of range",
            "! reach(0) -2; ! reach(-1) -2; ! reach(11) -2; ! reach(MIN) -2; ! reach(MAX) -2; reach(1) 2; reach(10) 1024; "
                + "! reach(11) -2; ! reach(0) -2; count(1) 10");
        Script.run("Returns the number of valid colourings", "reach(2) 4; reach(3) 8; reach(9) 512; reach(10) 1024; R013; "
            + "reach(9) 19683; reach(10) 59049; reach(1) 3");
        Script.run("Returns the number with equations", "R012e111=; reach(2) 2; reach(3) 4; reach(4) 2; reach(5) 0; "
            + "reach(10) 0; reach(4) 2");
        Script.run("This is an act", "reach(5) 32; count(5) 1; reach(5) 32; count(5) 2; undo() 1; count(1) 5; undo() 0; "
            + "count(1) 1");
        Script.run("A solution may have the new N", "R042e112!p010p020p031; ask(0) 2; go(0) 0; reach(5) 3; number(5, 0) 0; "
            + "R012e1a1=; reach(2) 2; reach(10) 0");
    }

    private static void reachPins() {
        Script.run("The pins of numbers above n are removed",
            "R102p010p021p031p040p101; reach(3) 1; count(4) 3; number(3, 1) 1; reach(2) 1; count(4) 2; reach(10) 256; "
                + "number(3, 1) -9; number(10, 1) -9");
        Script.run("The pin of n itself stays", "R102p091p101; reach(9) 256; number(9, 1) 1; count(4) 1; reach(8) 256; "
            + "count(4) 0");
        Script.run("No pins are removed by a larger N", "R012p011; reach(10) 512; count(4) 1; number(1, 1) 1; number(1, 2) 2");
        Script.run("All pins but the first are removed", "R103p010p021p032p040p051p062p070p081p092p101; reach(1) 1; "
            + "count(4) 1; reach(10) 19683; count(4) 1");
        Script.run("undo() brings the pins back", "R042p031p041; reach(2) 4; count(4) 0; undo() 0; count(4) 2; "
            + "number(4, 1) 1; ask(0) 4");
    }

    private static void addOutside() {
        String[] places = {"add(%d, 1, 1, 0)", "add(1, %d, 1, 0)", "add(1, 1, %d, 0)"};
        for (String place : places) {
            for (int factor = -6; factor <= 6; factor++) {
                boolean fits = factor != 0 && factor >= -4 && factor <= 4;
                String call = String.format(place, factor);
                Script.run("A, B and C are -4 to 4, not 0",
                    fits ? call + " " + alone(call) + "; count(3) 1" : "! " + call + " -2; count(3) 0; count(5) 0");
            }
            Script.run("A, B and C are far from -4 to 4",
                "! " + place.replace("%d", "MIN") + " -2; ! " + place.replace("%d", "MAX") + " -2; ! "
                    + place.replace("%d", "256") + " -2");
        }
        Script.run("1 if it is distinct, 0 if not",
            "! add(1, 1, 1, -1) -2; add(1, 1, 1, 0) 2; add(1, 1, 1, 1) 2; ! add(1, 1, 1, 2) -2; ! add(1, 1, 1, MIN) -2; "
                + "! add(1, 1, 1, MAX) -2; equation(0, 3) 0; equation(1, 3) 1");
        Script.run("Distinct or not tells in the colourings", "R032; add(1, 1, 2, 1) 6; undo() 0; add(1, 1, 2, 0) 0");
    }

    /** The colourings of 1 alone: none if x = y = z = 1 is a solution. */
    private static int alone(String call) {
        String[] words = call.substring(4, call.length() - 1).split(", ");
        return Integer.parseInt(words[0]) + Integer.parseInt(words[1]) == Integer.parseInt(words[2]) ? 0 : 2;
    }

    private static void addFull() {
        String three = "R042e444=e333=e222=; ";
        Script.run("FULL if there are 4 equations", three + "add(1, 1, 1, 0) 2; ! add(1, 1, 1, 0) -4; "
            + "! add(-4, 4, 4, 1) -4; count(3) 4; drop() 2; add(1, 1, 1, 1) 2; ! add(1, 1, 1, 1) -4");
        Script.run("FULL after a text with 4 equations", three + "'e111=; task() 2; ! add(1, 1, 1, 0) -4; undo() -3");
        Script.run("OUTSIDE before FULL", three + "add(1, 1, 1, 0) 2; ! add(0, 1, 1, 0) -2; ! add(1, 5, 1, 0) -2; "
            + "! add(1, 1, -5, 0) -2; ! add(1, 1, 1, 2) -2");
        Script.run("FULL also without colourings", "R052e111=e111=e111=e111=; ! add(1, 1, 1, 0) -4; ! add(1, 1, 1, -1) -2");
        Script.run("Returns the number of valid colourings", "R042; add(1, 1, 1, 1) 10; add(1, 1, 1, 0) 2; "
            + "add(1, 1, 4, 0) 2; add(1, 1, 2, 0) 0");
        Script.run("The same equation twice is two equations", "R042e111=; add(1, 1, 1, 0) 2; count(3) 2; drop() 2; count(3) 1");
        Script.run("The equation has the next number", "R042e111=; add(2, -3, 4, 1) 2; equation(1, 0) 12; "
            + "equation(1, 1) 7; equation(1, 2) 14; equation(1, 3) 1; equation(0, 0) 11");
    }

    private static void drop() {
        Script.run("STATE if there is no equation", "! drop() -3; add(1, 1, 1, 0) 2; drop() 2; ! drop() -3; R102p010; "
            + "! drop() -3");
        Script.run("Removes the last equation", "R042e222=e112=e113!e444!; drop() 0; count(3) 3; equation(2, 2) 13; "
            + "drop() 0; equation(1, 2) 12; ! equation(2, 2) -1; drop() 2; equation(0, 2) 12; drop() 16; count(3) 0");
        Script.run("Returns the number of valid colourings", "R052e111!e111=; ask(0) 0; drop() 12; drop() 32");
        Script.run("This is an act", "R012e111=; drop() 2; count(5) 1; undo() 0; count(3) 1; drop() 2; count(5) 1");
    }

    private static void pin() {
        Script.run("Gives a number a pin, in place of its pin", "R033; pin(2, 0) 9; pin(2, 2) 9; number(2, 1) 2; "
            + "number(2, 2) 4; count(4) 1; pin(2, 1) 9; count(4) 1");
        Script.run("Or removes its pin", "R033p022; pin(2, 9) 27; count(4) 0; number(2, 1) -9; pin(2, 9) 27; count(4) 0");
        Script.run("Returns the number of valid colourings", "R042e111=; pin(1, 1) 1; pin(4, 1) 1; pin(2, 1) 0; "
            + "pin(2, 9) 1; pin(4, 0) 0; pin(4, 9) 1; pin(1, 9) 2");
        Script.run("All of 10 numbers have pins", "R102; pin(10, 1) 512; pin(9, 1) 256; pin(1, 1) 128; pin(2, 0) 64; "
            + "pin(3, 0) 32; pin(4, 0) 16; pin(5, 0) 8; pin(6, 0) 4; pin(7, 0) 2; pin(8, 0) 1; count(4) 10; pin(8, 9) 2; "
            + "count(4) 9");
        Script.run("This is an act", "R022; pin(1, 1) 2; count(5) 1; pin(1, 1) 2; count(5) 2; pin(1, 9) 4; count(5) 3; "
            + "pin(1, 9) 4; count(5) 4; undo() 3; undo() 2; number(1, 1) 1; undo() 1; number(1, 1) 1; undo() 0; "
            + "number(1, 1) -9");
    }

    private static void pinRefused() {
        Script.run("UNKNOWN if there is no such number", "R032; ! pin(0, 0) -1; pin(1, 0) 4; pin(3, 0) 2; ! pin(4, 0) -1; "
            + "! pin(-1, 9) -1; ! pin(4, 9) -1; ! pin(MIN, 0) -1; ! pin(MAX, 0) -1");
        Script.run("UNKNOWN at N = 10", "R102; ! pin(11, 0) -1; pin(10, 0) 512; ! pin(0, 9) -1");
        Script.run("OUTSIDE if colour is neither a colour nor 9",
            "R032; ! pin(1, -1) -2; pin(1, 0) 4; pin(1, 1) 4; ! pin(1, 2) -2; ! pin(1, 3) -2; ! pin(1, 8) -2; pin(1, 9) 8; "
                + "! pin(1, 10) -2; ! pin(1, MIN) -2; ! pin(1, MAX) -2; ! pin(1, -9) -2");
        Script.run("OUTSIDE at K = 3", "R033; ! pin(1, -1) -2; pin(1, 2) 9; ! pin(1, 3) -2; ! pin(1, 8) -2; "
            + "! pin(1, 10) -2; number(1, 1) 2");
        Script.run("UNKNOWN before OUTSIDE", "R032; ! pin(0, -1) -1; ! pin(4, 2) -1; ! pin(4, 10) -1; ! pin(MAX, MAX) -1");
    }

    private static void actsWithoutEffect() {
        Script.run("Acts, also if nothing becomes different by them", "R033p020; go(0) 0; count(5) 1; reach(3) 9; "
            + "count(5) 2; pin(2, 0) 9; count(5) 3;"
            + "pin(1, 9) 9; count(5) 4; undo() 3; undo() 2; undo() 1; undo() 0; ! undo() -3; count(4) 1; ask(1) 0");
        StringBuilder undone = new StringBuilder();
        for (int left = 13; left >= 0; left--) {
            undone.append("undo() ").append(left).append("; ");
        }
        Script.run("They push older acts out", "R022; go(3) 2; " + Script.times(14, "go(3) 0") + "count(5) 14; " + undone
            + "! undo() -3; ask(1) 3");
    }

    private static void refusedCallsAreNoActs() {
        Script.run("The successful calls are acts", "R022e111=; go(2) -1; paint(1, 0) -3; paint(1, 2) -2; paint(3, 0) -1; "
            + "reach(0) -2; add(0, 1, 1, 0) -2; pin(3, 0) -1; pin(1, 2) -2; count(5) 0; drop() 4; drop() -3; count(5) 1");
        Script.run("No other calls are acts", "R022e111=; fault() -9; equation(0, 5) 1; solution(0, 0) 10102; "
            + "number(1, 0) 0; ask(2) 5; on() 3; judge(1, 3005) -9;"
            + "see(1, 2, 0) 1; which(0) 2; share(0, true) 2; luck(true) 1; lost(5, true) 1; seed(1) 0; drawn(1) 2; "
                + "keep(0) 2; unsee() 1; write(65) 10; wipe() 10; count(5) 0; undo() -3");
    }

    private static void undo() {
        Script.run("STATE if there is none", "! undo() -3; reach(2) 4; undo() 0; ! undo() -3; count(1) 1; R042; "
            + "! undo() -3; keep(0) 4; go(1) 1; again(0) 4; ! undo() -3");
        Script.run("Returns the number of acts that can still be undone", "R042; go(1) 1; go(2) 2; go(3) 1; undo() 2; "
            + "undo() 1; go(9) 1; undo() 1; undo() 0; undo() -3");
        Script.run("Undoing is no act", "R042; go(1) 1; go(2) 2; undo() 1; count(5) 1; ask(1) 1; undo() 0; ask(1) 0; count(5) 0");
        Script.run("Undoing leaves the observations, the seed, the text and the slots",
            "R042; go(1) 1; keep(1) 4; see(1, 2, 0) 1; seed(5) 0; write(101) 5; undo() 0; count(6) 1; seed(0) 5; "
                + "count(0) 5; again(1) 4; ask(1) 1");
    }

    private static void undoEachKind() {
        Script.run("Undoes go()", "R042; go(6) 2; go(9) 4; undo() 1; ask(1) 6; number(2, 0) 1; undo() 0; ask(1) 0");
        Script.run("Undoes paint()", "R042; paint(2, 1) 4; paint(2, 0) 0; undo() 1; ask(1) 4; undo() 0; ask(1) 0");
        Script.run("Undoes reach() with its colouring", "R042; go(11) 3; reach(2) 4; undo() 1; count(1) 4; ask(1) 11; "
            + "reach(7) 128; undo() 1; ask(1) 11; count(1) 4");
        Script.run("Undoes add() with its colouring", "R042; go(15) 4; add(1, 1, 1, 0) 2; ask(1) 0; undo() 1; count(3) 0; "
            + "ask(1) 15; add(1, 1, 2, 0) 0; undo() 1; ask(1) 15");
        Script.run("Undoes drop()", "R042e112!e111=; drop() 10; undo() 0; count(3) 2; equation(1, 2) 11; ask(0) 2; "
            + "R052e111=; drop() 32; ask(1) 0; undo() 0; ask(1) -9; ask(0) 0");
        Script.run("Undoes pin() with its colouring", "R042; go(15) 4; pin(2, 0) 8; ask(1) 0; undo() 1; ask(1) 15; "
            + "number(2, 1) -9; pin(2, 1) 8; pin(2, 9) 16; undo() 2; number(2, 1) 1; pin(2, 0) 8; undo() 2; "
            + "number(2, 1) 1; undo() 1; number(2, 1) -9");
    }

    private static void latestFourteen() {
        for (int acts = 12; acts <= 17; acts++) {
            StringBuilder steps = new StringBuilder("R052; ");
            for (int i = 1; i <= acts; i++) {
                steps.append("go(").append(i).append(") ").append(Integer.bitCount(i ^ i - 1)).append("; "
                    + "count(5) ").append(Math.min(i, 14)).append("; ");
            }
            for (int left = Math.min(acts, 14) - 1; left >= 0; left--) {
                steps.append("undo() ").append(left).append("; ask(1) ").append(acts - Math.min(acts, 14) + left).append("; ");
            }
            Script.run("The latest 14 acts can be undone, of " + acts, steps + "! undo() -3; ask(1) "
                + (acts - Math.min(acts, 14)));
        }
    }

    private static void undoneAndDoneAgain() {
        StringBuilder steps = new StringBuilder("R052; ");
        for (int i = 1; i <= 16; i++) {
            steps.append("go(" + i + ") " + Integer.bitCount(i ^ i - 1) + "; ");
        }
        Script.run("An act that fell out of the latest 14 stays out",
            steps + "undo() 13; undo() 12; undo() 11; go(30) 3; count(5) 12; go(31) 1; count(5) 13; go(0) 5; count(5) 14; "
                + "go(1) 1; count(5) 14; undo() 13; ask(1) 0; undo() 12; ask(1) 31;"
            + "undo() 11; ask(1) 30; undo() 10; ask(1) 13; undo() 9; ask(1) 12; undo() 8; undo() 7; undo() 6; undo() 5; "
                + "undo() 4; undo() 3; undo() 2; undo() 1; undo() 0; ask(1) 3; ! undo() -3");
    }

    private static void ringGoesRound() {
        StringBuilder steps = new StringBuilder("R102; ");
        for (int i = 1; i <= 60; i++) {
            String go = "go(" + i + ") " + Integer.bitCount(i ^ i - 1) + "; ";
            steps.append(go);
            if (i % 7 == 0) {
                steps.append("undo() ").append(Math.min(i, 14) - 1).append("; ask(1) ").append(i - 1).append("; ").append(go);
            }
        }
        for (int left = 13; left >= 0; left--) {
            steps.append("undo() " + left + "; ask(1) " + (46 + left) + "; ");
        }
        Script.run("The latest 14 of many acts", steps + "! undo() -3; ask(1) 46");
    }

    /** Texts that differ from the one read before in one byte of one equation only. */
    private static void changedEquations() {
        String[] others = {"e211=", "e121=", "e112=", "e111!"};
        int[] due = {10, 10, 0, 12};
        for (int place = 0; place < 4; place++) {
            String before = "R052" + "e11a=".repeat(place);
            String after = "e11a=".repeat(3 - place);
            for (int i = 0; i < others.length; i++) {
                Script.run("Another equation " + place, before + "e111=" + after + "; ask(0) 0; " + before + others[i]
                    + after + "; ask(0) " + due[i] + "; ask(1) " + (due[i] == 0 ? -9 : 0)
                    + "; " + before + "e111=" + after + "; ask(0) 0; " + before + others[i] + after + "; lost(0, true) "
                        + (due[i] == 0 ? 0 : 1));
            }
        }
        Script.run("Another last equation by drop() and add()", "R052e111!e111=; drop() 12; add(1, 1, 1, 1) 12; drop() 12; "
            + "add(2, 1, 1, 0) 4; drop() 12; drop() 32; add(2, 1, 1, 0) 10");
    }
}
