/** The sentences of promises 16 to 21, and of the description about questions and observations, that name a bound. */
final class QuestionEdgeTest {
    private QuestionEdgeTest() {
    }

    public static void main(String[] args) {
        askOutside();
        counted();
        limit();
        forced();
        paintable();
        kinds();
        kindsWithPins();
        deadEnds();
        on();
        judgeOutside();
        judgeFirst();
        judgePaint();
        judgePin();
        judgeReach();
        judgeCount();
        judgeForced();
        judgeRegular();
        judgeLimit();
        judgeOther();
        judgeOnACopy();
        see();
        sixObservations();
        unsee();
        which();
        ignoredObservations();
        numberTen();
        tenBesideASolution();
        atOnceAfterAnotherTask();
        Check.end("QuestionEdgeTest");
    }

    private static void askOutside() {
        Script.run("OUTSIDE if what is not 0 to 6", "R042e111=; ! ask(-1) -2; ! ask(0) 2; ! ask(1) 0; ! ask(2) 5; "
            + "! ask(3) 0; ! ask(4) 0; ! ask(5) 1; ! ask(6) 2; ! ask(7) -2; ! ask(MIN) -2; ! ask(MAX) -2");
        Script.run("OUTSIDE also without a colouring", "R052e111=; ! ask(7) -2; ! ask(-1) -2");
    }

    private static void counted() {
        Script.run("The number of valid colourings", "ask(0) 2; R103; ask(0) 59049; R102; ask(0) 1024; R013; ask(0) 3; "
            + "R052e111=; ask(0) 0; R043e111=; ask(0) 30");
        Script.run("The number of the present colouring", "ask(1) 0; go(1) 1; ask(1) 1; R103; go(59048) 10; ask(1) 59048; "
            + "R042e111=; go(1) 4; ask(1) 1");
        Script.run("NONE if there is no present colouring", "R052e111=; ! ask(1) -9; ! ask(0) 0; drop() 32; ask(1) 0; "
            + "R022p010p020e111=; ask(1) -9");
    }

    private static void limit() {
        Script.run("The limit is the lowest n", "R012e112=; ask(2) 1; R012eb21=; ask(2) 4; R012e111=; ask(2) 5; R012e142=; "
            + "ask(2) 8; R012e111!; ask(2) 9");
        Script.run("The limit may be 10", "R012ea22!; ask(2) 10; R102ea22!; ask(2) 10; ask(0) 0; reach(9) 4");
        Script.run("NONE if there is no limit up to 10", "R012e121=; ask(2) -9; R102e121=; ask(2) -9; ask(0) 2; R102e11a=; "
            + "ask(2) -9; R103e111=; ask(2) -9");
        Script.run("NONE without equations", "ask(2) -9; R102; ask(2) -9; R103; ask(2) -9");
        Script.run("In three colours", "R013e112=; ask(2) 1; R103e111=; ask(2) -9; add(1, 2, 3, 0) 0; ask(2) 1; "
            + "R103e111=e112!ea22!eb21=; ask(2) 8");
        Script.run("Whatever the pins are", "R052e111=p010p020p030p040p050; ask(2) 5; R022p010p020e111=; ask(0) 0; "
            + "ask(2) 5; R012p011; ask(2) -9");
        Script.run("Whatever N is", "R012e111=; ask(2) 5; reach(4) 2; ask(2) 5; reach(10) 0; ask(2) 5; reach(5) 0; ask(2) 5");
        Script.run("Of all equations", "R012e121=e111!; ask(2) 8; drop() 2; ask(2) -9; add(1, 1, 1, 0) 2; ask(2) 5; "
            + "undo() 1; ask(2) -9");
    }

    private static void forced() {
        Script.run("The forced numbers, as a set", "ask(3) 0; pin(1, 1) 1; ask(3) 2; R102p101; ask(3) 1024; "
            + "R103p010p020p030p040p050p060p070p080p090p102; ask(3) 2046");
        Script.run("Forced by equations", "R042e111=p031; ask(3) 30; R032e111=p010; ask(3) 6; R042e111=; ask(3) 0");
        Script.run("None is forced without a valid colouring", "R052e111=p010; ask(3) 0; R022p010p020e111=; ask(3) 0; "
            + "number(1, 3) 0");
    }

    private static void paintable() {
        Script.run("The pairs with which paint() would succeed", "ask(4) 1; R102; ask(4) 10; R103; ask(4) 20; R013; "
            + "ask(4) 2; R103p010p020p030p040p050p060p070p080p090; ask(4) 2");
        Script.run("Another colour than its present one", "R023; go(4) 2; ask(4) 4; go(8) 2; ask(4) 4");
        Script.run("Only valid colourings", "R032e111=; ask(4) 1; go(1) 1; ask(4) 1; R033e111=; ask(4) 4");
        Script.run("0 if there is no present colouring", "R052e111=; ! ask(4) 0; R103e112=; ask(4) 0");
        Script.run("0 if no pair would do", "R042e111=; ask(4) 0; R022p010p021; ask(4) 0");
    }

    private static void kinds() {
        Script.run("Different kinds of valid colourings", "ask(5) 1; R022; ask(5) 2; R032; ask(5) 4; R033; ask(5) 5; R043; "
            + "ask(5) 14; R102; ask(5) 512; R103; ask(5) 9842");
        Script.run("Kinds of 1 in three colours", "R013; ask(5) 1; pin(1, 2) 1; ask(5) 1");
        Script.run("0 kinds", "R052e111=; ask(5) 0; R022p010p020e111=; ask(5) 0");
        Script.run("A kind counts if one of its colourings agrees with the pins", "R033p012; ask(5) 5; R033p012p022; "
            + "ask(5) 2; R033p012p021; ask(5) 3; R033p012p021p030; ask(5) 1; R032p011p031; ask(5) 2");
        Script.run("Kinds with equations", "R042e111=; ask(5) 1; R033e111=; ask(5) 3; R043e111=; ask(5) 5; R043e111=p042; "
            + "ask(5) 5");
    }

    /** All ways to give four numbers pins or none. */
    private static void kindsWithPins() {
        for (int code = 0; code < 256; code++) {
            StringBuilder text = new StringBuilder();
            boolean two = true;
            for (int number = 1; number <= 4; number++) {
                int pin = code >> 2 * (number - 1) & 3;
                two = two && pin != 2;
                text.append(pin == 3 ? "" : "p0" + number + pin);
            }
            String[] starts = {"R043", "R043e111!", "R042", "R042e112!"};
            for (String start : starts) {
                if (start.charAt(3) == '3' || two) {
                    AvoidColours x = Check.of(start + text);
                    Check.same("16: kinds of " + start + text, x.ask(5), kindsOneByOne(x));
                }
            }
        }
    }

    /** How many of the valid colourings have a kind that none before them has. */
    private static int kindsOneByOne(AvoidColours x) {
        boolean[] known = new boolean[256];
        int kinds = 0;
        for (int i = 0; i < x.ask(0); i++) {
            x.go(i);
            int[] names = {-1, -1, -1};
            int blocks = 0;
            int kind = 0;
            for (int number = 1; number <= 4; number++) {
                int colour = x.number(number, 0);
                if (names[colour] < 0) {
                    names[colour] = blocks;
                    blocks++;
                }
                kind = 4 * kind + names[colour];
            }
            kinds += known[kind] ? 0 : 1;
            known[kind] = true;
        }
        return kinds;
    }

    private static void deadEnds() {
        Script.run("The partial colouring of no numbers is one, if 1 can have no colour", "R012e112=; ask(6) 1; R103e112=; "
            + "ask(6) 1; R012; ask(6) 0");
        Script.run("n = N - 1, if no valid colouring goes on from it", "R042e111=; ask(6) 2; R032e111=; ask(6) 0; "
            + "R022e111=p010p020; ask(6) 1");
        Script.run("A valid colouring of 1 to N is no dead end", "R042e111=; ask(6) 2; reach(5) 0; ask(6) 4; reach(10) 0; "
            + "ask(6) 4");
        Script.run("They agree with the pins", "R042e111=p010; ask(6) 1; R042e111=p041; ask(6) 3; R042e111=p010p041; "
            + "ask(6) 2; R042e111=p020; ask(6) 2");
        Script.run("None without equations", "R102p010p101; ask(6) 0; R073; ask(6) 0");
        Script.run("Counted also if there are no valid colourings", "R102e111=; ask(0) 0; ask(6) 4; R022e111=p011p021; ask(6) 1");
    }

    private static void on() {
        Script.run("STATE if N is 10", "R102; ! on() -3; reach(9) 512; ! on() 3; R103; on() -3");
        Script.run("STATE if there is no present colouring", "R052e111=; ! on() -3; reach(4) 2; ! on() 0");
        Script.run("STATE if both", "R102e111=; ! on() -3");
        Script.run("The colours for the number N + 1", "on() 3; R013; on() 7; R012e111=; on() 2; R013e111=; on() 6; "
            + "go(1) 1; on() 5; go(2) 1; on() 3");
        Script.run("With N = 9 a solution may have 10", "R092e111!; on() -3; R092e11a=; on() 3; R092e431!; go(0) 0; "
            + "on() 2; go(256) 1; on() 3");
        Script.run("The empty set", "R042e111=; on() 0; go(1) 4; on() 0; R022e112!e111!; go(0) 0; on() 2; go(1) 1; on() 3");
        Script.run("Only solutions of one colour rule a colour out", "R032e111=; on() 0; go(1) 1; on() 1; R033e111!; "
            + "go(0) 0; number(3, 0) 1; on() 7; R022e111!; on() 2; go(1) 1; on() 3");
        Script.run("Whatever the pins are", "R022e111!p011p021; on() 1; pin(1, 9) 2; on() 1; R012p010; on() 3");
        Script.run("Of the solutions with N + 1 as x, y or z", "R012e111=; on() 2; R012e1a1=; on() 2; R022ea11!; on() 2; "
            + "R022e1a1!; on() 2; R032e1c1!; on() 3; R032ec11!; on() 3; R032e1b1!; on() 2");
    }

    private static void judgeOutside() {
        Script.run("OUTSIDE if n is out of range", "! judge(0, 0) -2; ! judge(-1, 4002) -2; judge(1, 4002) -9; "
            + "! judge(5, 4002) -2; ! judge(MIN, 0) -2; ! judge(MAX, 0) -2");
        Script.run("OUTSIDE if row is negative", "! judge(1, -1) -2; ! judge(1, -4002) -2; ! judge(4, -1) -2; "
            + "! judge(4, MIN) -2; judge(1, 0) 0; judge(4, 0) 0");
        Script.run("OUTSIDE if row has more than 4 * n digits", "! judge(1, 9999) 0; ! judge(1, 10000) -2; "
            + "! judge(1, 40024002) -2; ! judge(2, 99999999) 0; ! judge(2, 100000000) -2;"
            + "! judge(3, 999999999999) 0; ! judge(3, 1000000000000) -2; ! judge(4, 9999999999999999) 0; "
                + "! judge(4, 10000000000000000) -2; ! judge(4, MAX) -2");
        Script.run("OUTSIDE if n and row are wrong", "! judge(0, -1) -2; ! judge(5, MAX) -2; ! judge(MAX, MIN) -2");
        Script.run("n is 1 to 4", "judge(1, 4002) -9; judge(2, 40024002) -9; judge(3, 400240024002) -9; "
            + "judge(4, 4002400240024002) -9");
    }

    private static void judgeFirst() {
        Script.run("The first one in the highest digits", "judge(4, 4003400240024002) 0; judge(4, 4002400340024002) 1; "
            + "judge(4, 4002400240034002) 2; judge(4, 4002400240024003) 3");
        Script.run("The first one of more", "judge(4, 4002400340034003) 1; judge(4, 4002400299990000) 2; "
            + "judge(3, 400399994003) 0");
        Script.run("With leading zeros", "! judge(2, 4002) 0; ! judge(3, 40024002) 0; ! judge(4, 4002) 0; judge(1, 2) 0");
    }

    private static void judgePaint() {
        Script.run("1 as paint(): the number", "R032; ! judge(1, 1001) 0; ! judge(1, 1011) -9; ! judge(1, 1031) -9; "
            + "! judge(1, 1041) 0; ! judge(1, 1991) 0; R102; judge(1, 1101) -9; judge(1, 1111) 0");
        Script.run("1 as paint(): the colour", "R032; ! judge(1, 1010) 0; ! judge(1, 1011) -9; ! judge(1, 1012) 0; "
            + "! judge(1, 1019) 0; R033; ! judge(1, 1012) -9; ! judge(1, 1013) 0; ! judge(1, 1019) 0");
        Script.run("1 as paint(): a pin, a solution or no colouring against it", "R032p020; judge(1, 1021) 0; R042e111=; "
            + "judge(1, 1011) 0; judge(1, 1031) 0; R052e111=; judge(1, 1010) 0; judge(1, 1011) 0");
        Script.run("1 as paint(): what was painted before", "R032e111=; judge(2, 10311030) -9; judge(2, 10311031) 1; "
            + "judge(2, 10301031) 0; judge(3, 103110301031) -9; R022e111!; judge(4, 1011102110101020) -9");
    }

    private static void judgePin() {
        Script.run("2 as pin(): the number", "R032; ! judge(1, 2000) 0; ! judge(1, 2009) 0; ! judge(1, 2010) -9; "
            + "! judge(1, 2030) -9; ! judge(1, 2040) 0; ! judge(1, 2049) 0; R102; judge(1, 2100) -9; judge(1, 2109) -9; "
            + "judge(1, 2110) 0");
        Script.run("2 as pin(): the colour", "R032; ! judge(1, 2011) -9; ! judge(1, 2012) 0; ! judge(1, 2018) 0; "
            + "! judge(1, 2019) -9; R033; ! judge(1, 2012) -9; ! judge(1, 2013) 0; ! judge(1, 2018) 0");
        Script.run("2 as pin(): the colourings after it", "R032; judge(2, 20104004) -9; judge(2, 20104008) 1; "
            + "judge(4, 2010202120304001) -9; judge(4, 2010202020194004) -9; R032p010; judge(2, 20194008) -9");
        Script.run("2 as pin(): the present colouring after it", "R032; judge(2, 20111010) 1; judge(3, 201120191010) -9; "
            + "judge(3, 201120191011) 2; R022e111=; judge(3, 201020201021) 2; judge(4, 2010202020291011) 3; "
            + "judge(4, 2010202020191011) 3");
    }

    private static void judgeReach() {
        Script.run("3 as reach(): n", "! judge(1, 3000) 0; ! judge(1, 3001) -9; ! judge(1, 3010) -9; ! judge(1, 3011) 0; "
            + "! judge(1, 3099) 0; ! judge(1, 3100) 0; ! judge(1, 3101) 0; ! judge(1, 3110) 0; ! judge(1, 3901) 0");
        Script.run("3 as reach(): the colourings after it", "judge(2, 30054032) -9; judge(4, 3002400430014002) -9; "
            + "R012e111=; judge(4, 3004400230054000) -9; judge(2, 30041021) 1; judge(3, 300310311030) -9");
        Script.run("3 as reach(): the pins above n", "R032p010p031; judge(4, 3002400230034004) -9; "
            + "judge(4, 3001300220204001) -9; judge(3, 300330034002) -9");
        Script.run("3 as reach(): the present colouring", "R022; go(3) 2; judge(2, 30021010) -9; judge(2, 30021011) 1; "
            + "judge(3, 300330021010) 2; judge(3, 300330021011) -9");
    }

    private static void judgeCount() {
        Script.run("4, so many valid colourings", "! judge(1, 4000) 0; ! judge(1, 4001) 0; ! judge(1, 4002) -9; "
            + "! judge(1, 4003) 0; ! judge(1, 4102) 0; R052e111=; ! judge(1, 4000) -9; judge(1, 4001) 0");
        Script.run("4, three digits", "R063; judge(1, 4729) -9; R092; judge(1, 4512) -9; R102; judge(1, 4024) 0; "
            + "judge(1, 4102) 0; judge(1, 4999) 0; R103; judge(1, 4049) 0; judge(1, 4590) 0");
    }

    private static void judgeForced() {
        Script.run("5, its only possible colour", "R032p011; ! judge(1, 5011) -9; ! judge(1, 5010) 0; ! judge(1, 5012) 0; "
            + "! judge(1, 5019) 0; ! judge(1, 5020) 0; ! judge(1, 5021) 0");
        Script.run("5, the number", "R032p011p030; judge(1, 5030) -9; judge(1, 5040) 0; judge(1, 5000) 0; "
            + "judge(1, 5001) 0; judge(1, 5991) 0; R102p101; judge(1, 5101) -9; judge(1, 5110) 0; judge(1, 5111) 0");
        Script.run("5, without colourings", "R052e111=p010; judge(1, 5010) 0; judge(1, 5020) 0; judge(2, 30045010) -9; "
            + "judge(2, 30045021) -9; judge(2, 30045050) 1");
        Script.run("5, in three colours", "R033e111=p010p021; judge(1, 5032) 0; judge(2, 20325032) -9; "
            + "judge(2, 20325031) 1; judge(1, 5021) -9");
        Script.run("5, of a number that is no more there", "R032p031; judge(1, 5031) -9; judge(2, 30025031) 1; "
            + "judge(3, 300230035031) 2");
    }

    private static void judgeRegular() {
        Script.run("6, this equation exists and is regular", "judge(1, 6000) 0; R012e111=e113=e123=e444!; "
            + "! judge(1, 6000) -9; ! judge(1, 6001) 0; ! judge(1, 6002) -9; ! judge(1, 6003) -9; ! judge(1, 6004) 0; "
            + "! judge(1, 6009) 0");
        Script.run("6, 0, 0", "R012e111=e111=; ! judge(1, 6001) -9; ! judge(1, 6010) 0; ! judge(1, 6011) 0; "
            + "! judge(1, 6100) 0; ! judge(1, 6101) 0; ! judge(1, 6900) 0");
        Script.run("6, three equations", "R012e111=e111=e111=; judge(1, 6002) -9; judge(1, 6003) 0; drop() 2; "
            + "judge(1, 6002) 0; judge(1, 6001) -9");
    }

    private static void judgeLimit() {
        Script.run("7, the limit is this number", "R012e111=; ! judge(1, 7004) 0; ! judge(1, 7005) -9; ! judge(1, 7006) 0; "
            + "! judge(1, 7000) 0; ! judge(1, 7015) 0; R012ea22!; judge(1, 7010) -9; judge(1, 7000) 0; R012e112=; "
            + "judge(1, 7001) -9");
        Script.run("7, or there is none", "! judge(1, 7000) -9; ! judge(1, 7001) 0; ! judge(1, 7010) 0; "
            + "! judge(1, 7009) 0; R102e121=; judge(1, 7000) -9; judge(1, 7011) 0; judge(1, 7010) 0");
        Script.run("7, 0", "R012e111=; judge(1, 7105) 0; judge(1, 7905) 0; drop() 2; judge(1, 7100) 0; judge(1, 7900) 0");
        Script.run("7, whatever the pins and N are", "R052e111=; judge(3, 201020207005) -9; judge(2, 30107005) -9; "
            + "judge(2, 30017005) -9");
    }

    private static void judgeOther() {
        Script.run("Any other four digits are impossible", "! judge(1, 0) 0; ! judge(1, 999) 0; ! judge(1, 11) 0; "
            + "! judge(1, 8000) 0; ! judge(1, 8011) 0; ! judge(1, 9999) 0; ! judge(1, 9011) 0; judge(2, 40028002) 1; "
            + "judge(2, 40029002) 1; judge(2, 40020002) 1");
        for (int doing = 0; doing < 10000; doing += doing % 1000 < 130 ? 1 : 7) {
            int kind = doing / 1000;
            boolean zero = doing / 100 % 10 == 0;
            boolean odd = kind == 0 || kind > 7 || !zero && (kind == 3 || kind >= 6) || kind == 6 && doing / 10 % 10 != 0;
            if (odd) {
                Check.same("18: the doing " + doing, Check.of("R042e111=").judge(1, doing), 0);
            }
        }
    }

    private static void judgeOnACopy() {
        String scene = "R042e111=p010; paint(3, 0) -3; keep(0) 4; add(1, 1, 1, 1) 1; see(1, 2, 0) 1; seed(9) 0; ";
        Script.run("Nothing is changed", scene + "! judge(4, 2019300310313010) -9; ! judge(4, 3010201920214000) -9; "
            + "! judge(4, 3001101120193009) 1; ! judge(1, 7005) -9; ! judge(2, 20197005) -9; ! judge(3, 300250109999) 2");
        Script.run("Beginning with the task as it is", "R032; go(6) 2; judge(2, 10101020) -9; judge(2, 10101011) -9; "
            + "judge(1, 1011) 0; judge(2, 10101010) 1; judge(1, 1010) -9; ask(1) 6");
        Script.run("The statements are about the copy as it is then", "R032e111=; judge(4, 4004201040023004) -9; "
            + "judge(4, 4004201040043004) 2; judge(3, 500030044002) 0; judge(4, 2010502130045040) -9");
    }

    private static void see() {
        Script.run("A number, 1 to 10", "! see(0, 1, 0) -2; ! see(1, 0, 0) -2; see(1, 2, 0) 1; see(10, 9, 1) 2; "
            + "! see(11, 1, 0) -2; ! see(1, 11, 0) -2; ! see(-1, 1, 0) -2; ! see(MIN, 1, 0) -2; ! see(1, MAX, 0) -2; "
            + "! see(MAX, 1, 1) -2; ! see(1, MIN, 1) -2");
        Script.run("Another number", "! see(1, 1, 0) -2; ! see(10, 10, 1) -2; ! see(5, 5, 1) -2; see(1, 10, 1) 1; "
            + "see(10, 1, 0) 2");
        Script.run("1 if they have the same colour, 0 if different ones", "! see(1, 2, -1) -2; ! see(1, 2, 2) -2; "
            + "! see(1, 2, MIN) -2; ! see(1, 2, MAX) -2; see(1, 2, 0) 1; see(1, 2, 1) 2; count(6) 2");
        Script.run("The numbers may be greater than N", "see(9, 10, 0) 1; see(1, 2, 1) 2; which(0) 2");
        Script.run("The order of the two numbers is nothing", "R022; see(2, 1, 0) 1; which(0) 2; which(1) 1; "
            + "see(1, 2, 0) 2; which(0) 2");
    }

    private static void sixObservations() {
        String five = "see(1, 2, 0) 1; see(1, 2, 0) 2; see(2, 1, 0) 3; see(3, 4, 1) 4; see(9, 10, 1) 5; ";
        Script.run("FULL if there are 6 observations", five + "count(6) 5; see(1, 3, 1) 6; ! see(1, 3, 1) -4; "
            + "! see(1, 3, 0) -4; count(6) 6");
        Script.run("OUTSIDE before FULL", five + "see(1, 3, 1) 6; ! see(1, 1, 1) -2; ! see(0, 1, 1) -2; "
            + "! see(1, 11, 1) -2; ! see(1, 2, 2) -2; ! see(1, 2, -1) -2");
        Script.run("The sixth counts as the first", "R072; see(1, 2, 1) 1; see(2, 3, 1) 2; see(3, 4, 1) 3; see(4, 5, 1) 4; "
            + "see(5, 6, 1) 5; which(0) 4; see(6, 7, 0) 6; which(0) 2; which(1) 1; see(1, 7, 1) -4; which(0) 2");
    }

    private static void unsee() {
        Script.run("Removes all observations", "R022; see(1, 2, 0) 1; see(1, 2, 1) 2; which(0) 0; unsee() 2; which(0) 4; "
            + "count(6) 0; see(1, 2, 1) 1; which(0) 2; which(1) 0");
        Script.run("Returns the number that there were", "! unsee() 0; see(1, 2, 0) 1; unsee() 1; ! unsee() 0");
        Script.run("Of six, and then there is room for six", "see(1, 2, 0) 1; see(1, 2, 0) 2; see(1, 2, 0) 3; "
            + "see(1, 2, 0) 4; see(1, 2, 0) 5; see(1, 2, 0) 6; unsee() 6;"
            + "see(1, 2, 0) 1; see(1, 2, 0) 2; see(1, 2, 0) 3; see(1, 2, 0) 4; see(1, 2, 0) 5; see(1, 2, 0) 6; see(1, 2, 0) -4");
    }

    private static void which() {
        Script.run("OUTSIDE if what is not 0 or 1", "R022; see(1, 2, 0) 1; ! which(-1) -2; ! which(0) 2; ! which(1) 1; "
            + "! which(2) -2; ! which(MIN) -2; ! which(MAX) -2");
        Script.run("NONE if there is none", "R022; see(1, 2, 0) 1; see(1, 2, 1) 2; ! which(0) 0; ! which(1) -9; "
            + "! which(2) -2; R052e111=; unsee() 2; which(0) 0; which(1) -9");
        Script.run("Without observations all agree", "! which(0) 2; ! which(1) 0; R103; which(0) 59049; which(1) 0; "
            + "R042e111=; which(0) 2; which(1) 0");
        Script.run("The lowest number of one", "R102; see(9, 10, 0) 1; see(1, 10, 1) 2; which(0) 256; which(1) 2; "
            + "see(1, 2, 0) 3; which(1) 258; go(258) 2; number(2, 0) 1; number(9, 0) 1");
        Script.run("The number among the valid colourings", "R032e111=; see(1, 3, 0) 1; which(0) 2; which(1) 1; "
            + "pin(1, 1) 2; which(0) 1; which(1) 0; number(1, 0) 1");
        Script.run("The same colour or different ones, in three colours", "R033; see(1, 2, 1) 1; which(0) 9; "
            + "see(2, 3, 0) 2; which(0) 6; which(1) 1; see(1, 3, 0) 3; which(0) 6; see(1, 3, 1) 4; which(0) 0");
        Script.run("The present colouring is nothing to it", "R022; see(1, 2, 0) 1; go(3) 2; which(0) 2; which(1) 1; ask(1) 3");
    }

    private static void ignoredObservations() {
        Script.run("Ignored as long as N is not greater", "R032; see(3, 4, 0) 1; which(0) 8; reach(4) 16; which(0) 8; "
            + "which(1) 1; reach(3) 8; which(0) 8; which(1) 0; reach(5) 32; which(0) 16");
        Script.run("Ignored by the smaller of the two numbers neither", "R022; see(4, 1, 1) 1; see(4, 1, 0) 2; which(0) 4; "
            + "reach(3) 8; which(0) 8; reach(4) 16; which(0) 0; which(1) -9");
        Script.run("Of 9 and 10", "R092; see(10, 9, 0) 1; which(0) 512; reach(10) 1024; which(0) 512; which(1) 1; R102; "
            + "which(0) 512; undo() -3; reach(9) 512; which(0) 512; which(1) 0");
        Script.run("They stay when a new task is read", "see(1, 2, 0) 1; R022; which(0) 2; R023; which(0) 6; R012; "
            + "which(0) 2; count(6) 1; unsee() 1");
        Script.run("They stay with undo() and again()", "R022; keep(0) 2; go(3) 2; see(1, 2, 0) 1; undo() 0; count(6) 1; "
            + "again(0) 2; count(6) 1; which(0) 2");
    }

    /** Each of these equations has one solution up to 10: with 1, 2 and 10, which stands once as x, as y and as z. */
    private static void numberTen() {
        String[] equations = {"e1d3!", "ed13!", "e431!"};
        int[] solutions = {100102, 11002, 10210};
        for (int i = 0; i < equations.length; i++) {
            Script.run("A solution with 10 in " + equations[i], "R092" + equations[i] + "; equation(0, 5) 0; on() 2; "
                + "ask(0) 512; reach(10) 768; solution(0, 0) " + solutions[i] + "; solution(0, 1) -9;"
                + "luck(true) 3; luck(false) 4; share(0, true) 256; number(10, 0) 1; go(0) 0; ! paint(10, 0) -3; "
                    + "pin(1, 0) 384; pin(2, 0) 128; number(10, 2) 2; pin(10, 0) 0; lost(3, true) 3; lost(3, false) 10;"
                + "ask(6) 128; pin(1, 9) 128; ask(6) 128; seed(1) 0; pin(1, 0) 0; drawn(1) 9");
        }
    }

    /** The number 10 has the colour of a solution in which it does not stand. */
    private static void tenBesideASolution() {
        Script.run("paint() with 10 of the same colour", "R103e111!p010p020p031p100; pin(3, 9) 178; number(3, 0) 1; "
            + "! paint(3, 0) -3; judge(1, 1030) 0");
        Script.run("lost() with 10 of the same colour", "R102e111!p010p020p030p100; lost(3, true) 3; lost(3, false) 10; "
            + "lost(0, true) 0; R022e112=; ask(0) 0");
        Script.run("share() with 10 of the same colour", "R102e111!p010p020p030p041p051p061p071p081p091p100; "
            + "share(0, true) 1; share(0, false) 1; R102e11a=e111!p010p020p030p041p051p061p071p081p091p100; "
            + "share(1, true) 1; share(0, true) 0");
    }

    /** Each question as the first call after undo() or again() brought other equations back. */
    private static void atOnceAfterAnotherTask() {
        String[] questions = {"on() 0", "paint(2, 0) -3", "paint(3, 0) -3", "ask(0) 1", "ask(1) 0", "ask(2) 5",
            "ask(3) 30", "ask(4) 0", "ask(5) 1", "ask(6) 1", "number(2, 2) 2", "number(3, 3) 1", "number(2, 0) 1",
            "go(1) -1", "go(0) 0", "which(0) 1", "which(1) 0", "share(0, true) 7", "luck(true) 1", "luck(false) 16",
                "lost(5, true) 1", "judge(1, 5021) -9", "judge(1, 1020) 0", "judge(1, 4001) -9", "judge(1, 7005) -9",
            "drawn(1) 4", "reach(5) 0", "equation(0, 5) 6", "pin(2, 1) 1", "add(2, 2, 2, 0) 1", "drop() 8"};
        for (String question : questions) {
            Script.run("At once after undo()", "R042e111=p010; keep(0) 4; drop() 8; undo() 0; " + question);
            Script.run("At once after again()", "R042e111=p010; keep(0) 4; drop() 8; again(0) 4; " + question);
            Script.run("At once after undo() of another N", "R042e111=p010; reach(2) 1; undo() 0; " + question);
        }
    }
}
