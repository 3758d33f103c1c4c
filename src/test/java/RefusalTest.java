import java.util.List;

/**
 * "A method that returns an error code changes nothing": every method with arguments at and beyond all bounds, in
 * tasks that are new, full or without a colouring. Answers are compared with the model's as well.
 */
final class RefusalTest {
    private static final String[] WIDE = {"MIN", "-10", "-9", "-5", "-4", "-1", "0", "1", "2", "3", "4", "5", "6", "7",
        "8", "9", "10", "11", "255", "256", "MAX"};
    private static final String[] SOME = {"MIN", "-1", "0", "1", "2", "3", "4", "5", "6", "9", "10", "11", "MAX"};
    private static final String[] FEW = {"-1", "0", "1", "2", "10", "11"};
    private static final String[] FACTORS = {"-5", "-4", "0", "1", "4", "5"};
    private static final String[] UPPER = {"true", "false"};
    private static final String[] ROWS = {"MIN", "-1", "0", "1011", "1021", "2011", "2049", "3005", "4002", "5010", "6000",
        "7005", "9999", "10000", "40024002", "99999999", "100000000", "101120113005", "999999999999", "1000000000000",
        "3005400030044002", "9999999999999999", "10000000000000000", "MAX"};

    private final String scene;
    private Slow slow;

    private RefusalTest(String scene) {
        this.scene = scene;
    }

    public static void main(String[] args) {
        String acts = "reach(4);go(1);go(0);go(1);go(0);go(1);go(0);go(1);go(0);go(1);go(0);go(1);go(0);go(1);go(0);go(1);";
        String seen = "see(1,2,0);see(1,4,1);see(3,4,0);see(9,10,1);see(2,3,1);see(10,1,0);";
        new RefusalTest("").sweep();
        new RefusalTest(write("R042e111=p010") + "task();keep(1);go(0);seed(7);see(1,2,0);" + write("e")).sweep();
        new RefusalTest(write("R042e111=e222!e123=e444!") + "task();" + acts + "keep(0);keep(1);seed(-9);" + seen
            + write("x".repeat(36))).sweep();
        new RefusalTest(write("R052e111=") + "task();add(1,1,2,0);pin(5,1);keep(0);seed(1);see(1,5,1);").sweep();
        new RefusalTest(write("R103p010p021p032p040p051p062p070p081") + "task();paint(9,1);pin(10,2);add(4,4,1,1);"
            + "keep(1);").sweep();
        new RefusalTest(write("R102p010p020p030p040p050p060p070p080p090p100") + "task();go(0);keep(0);undo();").sweep();
        Check.end("RefusalTest");
    }

    private static String write(String text) {
        StringBuilder calls = new StringBuilder("wipe();".repeat(text.startsWith("R") ? 1 : 0));
        for (char letter : text.toCharArray()) {
            calls.append("write(").append((int) letter).append(");");
        }
        return calls.toString();
    }

    private void sweep() {
        String[] alone = {"wipe()", "fault()", "task()", "drop()", "undo()", "on()", "unsee()"};
        for (String call : alone) {
            each(call);
        }
        String[] ofOne = {"write", "go", "reach", "ask", "which", "drawn", "keep", "again", "count"};
        for (String name : ofOne) {
            with(name + "(", WIDE);
        }
        with("luck(", UPPER);
        with("seed(", FEW);
        for (String a : SOME) {
            String[] ofTwo = {"equation", "number", "paint", "pin", "solution"};
            for (String name : ofTwo) {
                with(name + "(" + a + ", ", SOME);
            }
            with("share(" + a + ", ", UPPER);
            with("lost(" + a + ", ", UPPER);
            with("judge(" + a + ", ", ROWS);
        }
        ofMore();
    }

    private void ofMore() {
        for (String a : FEW) {
            for (String b : FEW) {
                with("see(" + a + ", " + b + ", ", FEW);
            }
        }
        for (String a : FACTORS) {
            for (String b : FACTORS) {
                for (String c : FACTORS) {
                    with("add(" + a + ", " + b + ", " + c + ", ", new String[] {"-1", "0", "1", "2"});
                }
            }
        }
    }

    private void with(String start, String[] last) {
        for (String word : last) {
            each(start + word + ")");
        }
    }

    private void each(String call) {
        AvoidColours with = new AvoidColours();
        prepare(with);
        if (slow == null) {
            slow = new Slow();
            prepare(slow);
        }
        long due = Script.call(slow, call);
        long got = Script.call(with, call);
        Check.same(scene + call, got, due);
        if (due >= -4 && due <= -1) {
            AvoidColours without = new AvoidColours();
            prepare(without);
            List<Long> before = Script.look(without);
            Check.yes(scene + call + " changes nothing", Script.look(with).equals(before));
        } else {
            // The model may be another now: the next call makes a new one.
            slow = null;
        }
    }

    private void prepare(Object x) {
        for (String call : scene.split(";")) {
            if (!call.isEmpty()) {
                Script.call(x, call);
            }
        }
    }
}
