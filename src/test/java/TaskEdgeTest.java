/** The sentences of the description and of promises 1 to 8 that name a bound, each with steps of its own. */
final class TaskEdgeTest {
    private static final String FULL_TEXT = "R103p010p021p032p040p051p062p070p081p092e111=e123!e444=eabc!";

    private TaskEdgeTest() {
    }

    public static void main(String[] args) {
        numbersAndColours();
        equationsAndFactors();
        pins();
        colourings();
        presentColouring();
        presentColouringLost();
        newObject();
        twoObjects();
        write();
        wipe();
        textLetters();
        textCounts();
        textIncomplete();
        textFirstFault();
        task();
        taskForgets();
        equation();
        solution();
        allEquations();
        number();
        Check.end("TaskEdgeTest");
    }

    private static void numbersAndColours() {
        Script.run("The numbers are 1 to N, N is at first 1",
            "number(1, 0) 0; ! number(0, 0) -1; ! number(2, 0) -1; ! number(-1, 0) -1; count(1) 1");
        Script.run("N is 1 to 10",
            "! reach(0) -2; reach(1) 2; reach(10) 1024; ! reach(11) -2; count(1) 10; number(10, 0) 0; number(11, 0) -1");
        Script.run("The colours are 0 to K - 1, K is at first 2",
            "count(2) 2; go(1) 1; ! paint(1, 2) -2; ! paint(1, -1) -2; paint(1, 0) 0; paint(1, 1) 1");
        Script.run("K is 2", "R012; count(2) 2; ! pin(1, 2) -2; pin(1, 1) 1; number(1, 2) 2");
        Script.run("K is 3", "R013; count(2) 3; ! pin(1, 3) -2; pin(1, 2) 1; number(1, 2) 4; pin(1, 9) 3; paint(1, 1) 1");
        Script.run("K is 2 after 3", "R013; R012; ask(0) 2; paint(1, 2) -2");
    }

    private static void equationsAndFactors() {
        Script.run("At first there is no equation", "count(3) 0; ! equation(0, 0) -1; ! solution(0, 0) -1; ! drop() -3");
        Script.run("There are at most 4 equations, numbered from 0",
            "add(1, 1, 1, 0) 2; add(2, 2, 1, 1) 2; equation(1, 0) 12; ! equation(2, 0) -1; add(3, 3, 3, 0) 2;"
            + "equation(2, 0) 13; ! equation(3, 0) -1; add(4, 4, 4, 0) 2; equation(3, 0) 14; ! equation(4, 0) -1;"
            + "! add(1, 1, 1, 0) -4; equation(0, 0) 11; count(3) 4");
        Script.run("A, B and C are from -4 to 4", "add(-4, -4, -4, 0) 2; add(4, 4, 4, 1) 2; equation(0, 0) 6;"
            + "equation(0, 1) 6; equation(0, 2) 6; equation(1, 0) 14; equation(1, 1) 14; equation(1, 2) 14");
        Script.run("A solution's numbers are from 1 to N",
            "R032e111=; equation(0, 5) 3; reach(2) 2; equation(0, 5) 1; solution(0, 0) 10102; reach(1) 2; equation(0, 5) 0");
        Script.run("The number 0 solves nothing", "R022e1a1=; equation(0, 5) 1; solution(0, 0) 20101");
        Script.run("No part of a number solves anything", "R032e112=; equation(0, 5) 5; solution(0, 1) 10302");
        Script.run("Below 0 a part of a number solves nothing either", "R032eaab=; equation(0, 5) 5; solution(0, 1) 10302");
        Script.run("If it is distinct, x, y and z must be different from each other",
            "R032e112!; equation(0, 5) 2; solution(0, 0) 10302; solution(0, 1) 30102; R022e111!; equation(0, 5) 0;"
            + "R032e1a1!; equation(0, 5) 2; R042e1b2!; equation(0, 5) 0; R042eb12!; equation(0, 5) 0");
        Script.run("Otherwise they may be equal", "R012e112=; equation(0, 5) 1; solution(0, 0) 10101; ask(0) 0;"
            + "R042e1b2=; equation(0, 5) 1; solution(0, 0) 40101; R042eb12=; equation(0, 5) 1; solution(0, 0) 10401");
    }

    private static void pins() {
        Script.run("At first no number has a pin", "R103; count(4) 0; number(1, 1) -9; number(10, 1) -9");
        Script.run("Each number may have a pin",
            "R102p010p021p030p041p050p061p070p081p090p101; count(4) 10; number(10, 1) 1; ask(0) 1; number(9, 0) 0");
        Script.run("It is valid if each number with a pin has this colour",
            "R023; pin(2, 2) 3; number(1, 2) 7; number(2, 2) 4; pin(1, 1) 1; number(1, 2) 2; number(2, 0) 2");
    }

    private static void colourings() {
        StringBuilder steps = new StringBuilder("R033; ask(0) 27; go(26) 3; ! go(27) -1; ! go(-1) -1; go(0) 3;");
        for (int i = 1; i < 27; i++) {
            // From 0 to 1 one number changes, from 2 to 10 two do, from 22 to 100 all three.
            steps.append("go(" + i + ") " + (i % 9 == 0 ? 3 : i % 3 == 0 ? 2 : 1) + ";");
            steps.append("number(1, 0) " + i / 9 + "; number(2, 0) " + i / 3 % 3 + "; number(3, 0) " + i % 3 + ";");
        }
        Script.run("Numbered from 0 in the lexicographic order of the colours of 1 to N", steps.toString());
        Script.run("Only valid colourings are numbered",
            "R042e111=; go(0) 0; number(1, 0) 0; number(2, 0) 1; go(1) 4; number(1, 0) 1; number(2, 0) 0; ! go(2) -1");
        Script.run("No equation has a solution whose numbers all have the same colour",
            "R022e111=; ask(0) 2; reach(3) 4; R022e111!; ask(0) 4; reach(3) 6; R012e112=; ask(0) 0");
        Script.run("Each of four equations counts", "R042e444=e112!e11a=e222!; ask(0) 2; R092e11a=eaa1=e11b!e111!; ask(0) 0");
    }

    private static void presentColouring() {
        Script.run("It is at first valid colouring 0", "ask(1) 0; number(1, 0) 0; R042e111=; ask(1) 0; number(2, 0) 1");
        Script.run("There is none if and only if there are no valid colourings",
            "R042e111=; ask(1) 0; reach(5) 0; ask(1) -9; number(1, 0) -9; drop() 32; ask(1) 0; number(5, 0) 0");
        Script.run("It stays with an equation that leaves it valid", "R042; go(9) 2; add(1, 1, 1, 0) 2; ask(1) 1; "
            + "number(4, 0) 1");
        Script.run("It stays if an equation goes", "R042e111=; go(1) 4; drop() 16; ask(1) 9");
        Script.run("It stays with a pin of its colours", "R042; go(9) 2; pin(1, 1) 8; ask(1) 1; pin(4, 1) 4; ask(1) 0");
        Script.run("It stays if a pin goes", "R042p011p041; go(3) 2; pin(1, 9) 8; ask(1) 7; pin(4, 9) 16; ask(1) 15");
        Script.run("It stays if N is the same", "R052; go(19) 3; reach(5) 32; ask(1) 19");
    }

    private static void presentColouringLost() {
        Script.run("Otherwise it becomes valid colouring 0: an equation against it",
            "R042; go(15) 4; add(1, 1, 1, 0) 2; ask(1) 0; number(2, 0) 1");
        Script.run("Otherwise it becomes valid colouring 0: a pin against it",
            "R042; go(15) 4; pin(4, 0) 8; ask(1) 0; number(1, 0) 0; go(7) 3; pin(4, 1) 8; ask(1) 0; number(1, 0) 0");
        Script.run("Otherwise it becomes valid colouring 0: a larger N", "R032; go(7) 3; reach(4) 16; ask(1) 0; number(1, 0) 0");
        Script.run("Otherwise it becomes valid colouring 0: a smaller N", "R032; go(7) 3; reach(2) 4; ask(1) 0; number(1, 0) 0");
        Script.run("Or there is none: an equation", "R042; go(3) 2; add(1, 1, 2, 0) 0; ask(1) -9; number(4, 0) -9");
        Script.run("Or there is none: a pin", "R032e111=; go(1) 1; pin(1, 0) 2; pin(2, 0) 0; ask(1) -9; pin(2, 1) 2; ask(1) 0");
        Script.run("Or there is none: N", "R042e111=; go(1) 4; reach(5) 0; ask(1) -9; reach(4) 2; ask(1) 0; number(1, 0) 0");
        Script.run("None stays none", "R052e111=; add(1, 1, 1, 1) 0; ask(1) -9; pin(1, 1) 0; reach(6) 0; ask(1) -9; "
            + "drop() 0; ask(1) -9");
    }

    private static void newObject() {
        Script.run("Creates a task with N = 1 and K = 2", "count(1) 1; count(2) 2; ask(0) 2; ask(1) 0; number(1, 2) 3");
        Script.run("Without equations, pins and observations", "count(3) 0; count(4) 0; count(6) 0; number(1, 1) -9; unsee() 0");
        Script.run("With an empty text", "count(0) 0; fault() 0; ! task() -3; wipe() 0");
        Script.run("With the seed 0", "seed(1) 0");
        Script.run("No act can be undone at first", "count(5) 0; ! undo() -3");
        Script.run("The slots keep nothing at first", "! again(0) -3; ! again(1) -3");
    }

    private static void twoObjects() {
        AvoidColours x = new AvoidColours();
        AvoidColours y = new AvoidColours();
        Check.text(x, "R053e111=p011");
        x.task();
        x.seed(4);
        x.see(1, 2, 1);
        x.go(1);
        x.keep(0);
        long[] due = {0, 1, 2, 0, 0, 0, 0};
        for (int what = 0; what < due.length; what++) {
            Check.same("1: count(" + what + ") of another object", y.count(what), due[what]);
        }
        Check.same("1: the seed of another object", y.seed(0), 0);
        Check.same("1: a slot of another object", y.again(0), -3);
        Check.same("1: the colourings of another object", y.ask(0), 2);
        y.add(1, 1, 2, 0);
        Check.same("1: the colourings of the first object", x.ask(0), 22);
    }

    private static void write() {
        Script.run("The byte is 0 to 255", "! write(-1) -2; write(0) 1; write(255) 2; ! write(256) -2; ! write(MIN) -2; "
            + "! write(MAX) -2");
        Script.run("The text is a buffer of at most 60 bytes", Script.times(58, "count(6) 0")
            + "'" + "x".repeat(58) + "; count(0) 58; write(82) 59; write(82) 60; ! write(82) -4; count(0) 60");
        Script.run("FULL if the text has 60 bytes", "'" + "R".repeat(60) + "; ! write(0) -4; ! write(255) -4; wipe() 60; "
            + "write(0) 1");
        Script.run("OUTSIDE before FULL", "'" + "R".repeat(60) + "; ! write(-1) -2; ! write(256) -2");
        Script.run("A full text can be that of a task", "'" + FULL_TEXT + "; count(0) 60; fault() -9; ! write(101) -4; "
            + "fault() -9; task() 0; count(4) 9");
        Script.run("Appends a byte", "'R01; fault() 3; write(50) 4; fault() -9; write(50) 5; fault() 4");
        Script.run("Writing leaves the task", "R052e111=; 'e112=p011; count(0) 18; count(1) 5; count(3) 1; count(4) 0");
    }

    private static void wipe() {
        Script.run("Empties the text", "! wipe() 0; 'R05; wipe() 3; count(0) 0; fault() 0; wipe() 0; '2; fault() 0");
        Script.run("Returns the length that it had", "'R; wipe() 1; '" + "e".repeat(60) + "; wipe() 60; wipe() 0");
        Script.run("Wiping leaves the task", "R052e111=p011; wipe() 13; count(1) 5; count(3) 1; count(4) 1; ! task() -3");
    }

    /** Tries every byte after a beginning: just these bytes can go on there. */
    private static void next(String text, String letters) {
        for (int letter = 0; letter < 256; letter++) {
            AvoidColours x = new AvoidColours();
            Check.text(x, text);
            x.write(letter);
            boolean fits = letters.indexOf((char) letter) >= 0;
            boolean fault = x.fault() == text.length();
            Check.yes("4: the byte " + letter + " after " + text, fits != fault);
            Check.yes("4: no fault before it", x.fault() == -9 || x.fault() >= text.length());
        }
    }

    private static void textLetters() {
        next("", "R");
        next("R", "01");
        next("R0", "123456789");
        next("R1", "0");
        next("R01", "23");
        next("R10", "23");
        next("R012", "ep");
        next("R102e", "1234abcd");
        next("R102e1", "1234abcd");
        next("R102ed4", "1234abcd");
        next("R102e14d", "=!");
        next("R012e14d=", "ep");
        next("R012p", "0");
        next("R092p", "0");
        next("R102p", "01");
        next("R012p0", "1");
        next("R092p0", "123456789");
        next("R103p0", "123456789");
        next("R103p1", "0");
        next("R052p0", "12345");
        next("R052p05", "01");
        next("R053p05", "012");
        next("R053p052", "ep");
        next("R053p052p0", "1234");
        next("R053p010p0", "2345");
        next("R103p102p", "0");
        next("R103p102p0", "123456789");
    }

    private static void textCounts() {
        next("R012e111=e111=e111=", "ep");
        next("R012e111=e111=e111=e111=", "p");
        next("R012p010", "e");
        next("R012e111=p010e111=e111=", "e");
        next("R012e111=p010e111=e111=e111=", "");
        String nine = "R103p010p020p030p040p050p060p070p080p090";
        next(nine, "ep");
        next(nine + "p", "1");
        next(nine + "p1", "0");
        next(nine + "p10", "012");
        next(nine + "p100", "e");
        next("R102p100p010p020p030p040p050p060p070p090", "ep");
        next("R102p100p010p020p030p040p050p060p070p090p", "0");
        next("R102p100p010p020p030p040p050p060p070p090p0", "8");
        next("R032p030p010p0", "2");
    }

    private static void textIncomplete() {
        String text = "R103e12a=p101p021eb4d!";
        String whole = "4 9 13 17 22";
        for (int length = 0; length <= text.length(); length++) {
            boolean task = (" " + whole + " ").contains(" " + length + " ");
            Script.run("The length of the text if it is only incomplete: " + text.substring(0, length),
                "'" + text.substring(0, length) + "; ! fault() " + (task ? -9 : length));
        }
        String full = "R103p010p021p032p040p051p062p070p081p092p101e111=e123!e444=";
        Script.run("Incomplete with 60 bytes", "'" + full + "; fault() -9; 'e; fault() 60; ! write(49) -4; fault() 60; "
            + "! task() -3");
        Script.run("A fault in the last of 60 bytes", "'" + full + "p; fault() 59; ! task() -3");
        Script.run("With 60 bytes none of which is a fault but the first", "'" + "x".repeat(60) + "; fault() 0");
    }

    private static void textFirstFault() {
        Script.run("The first byte of more than one", "'R112e000=p000; fault() 2; ! task() -3");
        Script.run("What follows a fault mends nothing", "'R05x2; fault() 3; '2e111=p010; fault() 3");
        Script.run("The fifth equation of five whole ones", "'R052e111=e111=e111=e111=e111=; fault() 24; ! task() -3");
        Script.run("The pin of a number that has one", "'R052p011p020p011; fault() 14; ! task() -3");
        Script.run("One pin more than there are numbers", "'R022p011p021p031; fault() 12; ! task() -3");
        Script.run("Without blanks", "'R052; write(32) 5; fault() 4; wipe() 5; write(32) 1; fault() 0; wipe() 1; 'R052e11; "
            + "write(32) 8; fault() 7");
        Script.run("A second head", "'R052R052; fault() 4");
    }

    private static void task() {
        Script.run("STATE if the text has a fault: an empty text",
            "reach(3) 8; go(5) 2; keep(0) 3; keep(1) 3; see(1, 2, 0) 1; seed(8) 0; ! task() -3; count(5) 2; ask(1) 5");
        Script.run("STATE if the text has a fault: an unfinished text",
            "R033e111=p021; go(2) 1; keep(1) 3; wipe() 13; 'R022p01; ! task() -3; again(1) 3; ask(1) 2");
        Script.run("STATE if the text has a fault: a full text",
            "R023; go(8) 2; '" + "e".repeat(56) + "; ! task() -3; count(2) 3; ask(1) 8");
        Script.run("Reads the text in place of the present task",
            "R053e111=p012; add(4, 4, 1, 0) 22; R022e222!; count(1) 2; count(2) 2; count(3) 1; equation(0, 3) 1; "
                + "count(4) 0; ask(0) 4");
        Script.run("The text stays", "R042e111=; count(0) 9; fault() -9; reach(2) 2; task() 2; count(1) 4; 'p010; "
            + "task() 1; count(4) 1");
        Script.run("The present colouring is valid colouring 0",
            "R042e111=; go(1) 4; task() 2; ask(1) 0; number(1, 0) 0; R042e111=p011; ask(1) 0; number(1, 0) 1");
        Script.run("Or there is none", "R052e111=; ask(1) -9; task() 0; R022p010; ask(1) 0");
        Script.run("Returns the number of valid colourings",
            "R012; task() 2; R013; task() 3; R102; task() 1024; R103; task() 59049; R052e111=; task() 0; R102e111=p011; "
                + "task() 0");
    }

    private static void taskForgets() {
        Script.run("No act can be undone", "reach(3) 8; go(1) 1; R042; count(5) 0; ! undo() -3; go(3) 2; undo() 0; ask(1) 0");
        Script.run("No act can be undone, also of 14", Script.times(14, "reach(2) 4") + "count(5) 14; R042; count(5) 0; "
            + "! undo() -3");
        Script.run("The slots keep nothing", "keep(0) 1; keep(1) 1; R042; ! again(0) -3; ! again(1) -3; keep(1) 4; "
            + "again(1) 4; ! again(0) -3");
        Script.run("The observations stay",
            "see(1, 2, 1) 1; see(9, 10, 0) 2; R102; count(6) 2; which(0) 256; R022; which(0) 2; count(6) 2; R102; which(0) 256");
        Script.run("Six observations stay",
            Script.times(1, "see(1, 2, 1) 1; see(1, 3, 1) 2; see(1, 4, 1) 3; see(1, 5, 1) 4; see(1, 6, 1) 5; see(1, 7, 0) 6")
            + "R072; count(6) 6; which(0) 2; which(1) 1; ! see(1, 2, 1) -4");
        Script.run("The seed stays", "seed(-5) 0; R042; seed(MIN) -5; R052e111=; seed(0) MIN".replace("seed(0) MIN",
            "seed(0) " + Long.MIN_VALUE));
    }

    private static void equation() {
        Script.run("UNKNOWN if there is no such equation",
            "R042; ! equation(0, 0) -1; R042e111=; ! equation(-1, 0) -1; ! equation(1, 0) -1; ! equation(MIN, 0) -1; "
                + "! equation(MAX, 0) -1");
        Script.run("UNKNOWN at four equations", "R042e111=e111=e111=e444!; equation(3, 2) 14; ! equation(4, 2) -1");
        Script.run("UNKNOWN after drop()", "R042e111=e222=; drop() 2; ! equation(1, 0) -1; equation(0, 0) 11; undo() 0; "
            + "equation(1, 0) 12");
        Script.run("OUTSIDE if what is not 0 to 5",
            "R042e111=; ! equation(0, -1) -2; ! equation(0, 0) 11; ! equation(0, 5) 6; ! equation(0, 6) -2; "
                + "! equation(0, MIN) -2; ! equation(0, MAX) -2");
        Script.run("UNKNOWN before OUTSIDE", "R042e111=; ! equation(1, 6) -1; ! equation(-1, -1) -1");
        Script.run("Whether it is distinct", "R042e111=e111!; equation(0, 3) 0; equation(1, 3) 1; add(1, 1, 1, 1) 2; "
            + "equation(2, 3) 1");
        Script.run("The number of its solutions follows N", "R102e111=; equation(0, 5) 45; reach(9) 0; equation(0, 5) 36; "
            + "reach(1) 2; equation(0, 5) 0");
    }

    private static void solution() {
        Script.run("NONE if i is negative or there are not so many", "R042e111=; ! solution(0, -1) -9; ! solution(0, 0) 10102;"
            + "! solution(0, 5) 30104; ! solution(0, 6) -9; ! solution(0, MIN) -9; ! solution(0, MAX) -9");
        Script.run("NONE if there is none", "R042e11a=; solution(0, 0) -9; R012e111=; solution(0, 0) -9");
        Script.run("UNKNOWN if there is no such equation", "! solution(0, 0) -1; R042e111=; ! solution(1, 0) -1; "
            + "! solution(-1, 0) -1; ! solution(MAX, 0) -1");
        Script.run("UNKNOWN also where NONE would do", "! solution(0, -1) -1; R042e111=; ! solution(1, -1) -1; "
            + "! solution(4, 99) -1");
        Script.run("10000 * x + 100 * y + z up to 10", "R102e112=; solution(0, 0) 10101; solution(0, 49) 101010; "
            + "solution(0, 50) -9");
    }

    /** Each equation there can be, up to 1, 2 and 10, with every triple tried. */
    private static void allEquations() {
        for (int code = 0; code < 1024; code++) {
            int[] e = {code / 128 - 4, code / 16 % 8 - 4, code / 2 % 8 - 4};
            for (int i = 0; i < 3; i++) {
                e[i] += e[i] >= 0 ? 1 : 0;
            }
            AvoidColours x = new AvoidColours();
            Check.yes("12: add()", x.add(e[0], e[1], e[2], code % 2) >= 0);
            boolean regular = e[0] + e[1] == 0 || e[0] == e[2] || e[1] == e[2] || e[0] + e[1] == e[2];
            Check.same("6: regular " + e[0] + " " + e[1] + " " + e[2], x.equation(0, 4), regular ? 1 : 0);
            solutionsUpTo(x, e, 1);
            solutionsUpTo(x, e, 2);
            solutionsUpTo(x, e, 10);
        }
    }

    private static void solutionsUpTo(AvoidColours x, int[] e, int n) {
        x.reach(n);
        int found = 0;
        for (int i = 0; i < n * n * n; i++) {
            int a = i / (n * n) + 1;
            int b = i / n % n + 1;
            int c = i % n + 1;
            boolean apart = a != b && a != c && b != c;
            if (e[0] * a + e[1] * b == e[2] * c && (apart || x.equation(0, 3) == 0)) {
                Check.same("7: solution(0, " + found + ")", x.solution(0, found), 10000 * a + 100 * b + c);
                found++;
            }
        }
        Check.same("7: no more", x.solution(0, found), -9);
        Check.same("6: the number of solutions", x.equation(0, 5), found);
    }

    private static void number() {
        Script.run("UNKNOWN if there is no such number",
            "R042; ! number(0, 0) -1; ! number(1, 0) 0; ! number(4, 0) 0; ! number(5, 0) -1; ! number(-1, 1) -1; "
                + "! number(MIN, 2) -1; ! number(MAX, 3) -1");
        Script.run("UNKNOWN at N = 10", "R102; ! number(10, 0) 0; ! number(11, 0) -1; ! number(0, 1) -1");
        Script.run("UNKNOWN after a smaller N", "R102; reach(4) 16; ! number(5, 1) -1; ! number(10, 0) -1; reach(5) 32; "
            + "number(5, 1) -9");
        Script.run("OUTSIDE if what is not 0 to 3", "R042; ! number(1, -1) -2; ! number(1, 3) 0; ! number(1, 4) -2; "
            + "! number(1, MIN) -2; ! number(1, MAX) -2");
        Script.run("UNKNOWN before OUTSIDE", "R042; ! number(5, 4) -1; ! number(0, -1) -1");
        Script.run("OUTSIDE also without a colouring", "R052e111=; ! number(1, 4) -2; ! number(1, -1) -2; ! number(6, 0) -1");
        Script.run("NONE if there is no present colouring", "R052e111=p011; ! number(1, 0) -9; ! number(5, 0) -9; "
            + "number(1, 1) 1");
        Script.run("NONE if it has no pin", "R053p012p050; ! number(1, 1) 2; ! number(2, 1) -9; ! number(5, 1) 0; "
            + "pin(1, 9) 81; number(1, 1) -9");
        Script.run("Its possible colours, as a set",
            "R033e111=; number(1, 2) 7; pin(1, 0) 6; number(1, 2) 1; number(2, 2) 6; pin(2, 2) 3; number(3, 2) 7; "
                + "pin(3, 1) 1; number(3, 2) 2");
        Script.run("No possible colours without a valid colouring", "R052e111=; number(1, 2) 0; number(5, 2) 0; number(3, 3) 0");
        Script.run("A number is forced if it has exactly one possible colour",
            "R033e111=p010; number(1, 3) 1; number(2, 3) 0; pin(2, 0) 0; number(1, 3) 0; R042e111=p011; number(4, 3) 1; "
                + "number(4, 2) 2");
        Script.run("Forced by its pin alone", "R102p101; number(10, 3) 1; number(10, 2) 2; number(9, 3) 0; number(9, 2) 3");
    }
}
