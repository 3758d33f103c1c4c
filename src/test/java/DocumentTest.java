import java.util.ArrayList;
import java.util.List;

/** The sentences of the document that belong to no single promise, and those about all calls in LANGUAGE.md. */
final class DocumentTest {
    private static final int CALLS = 512;

    /** Each method with arguments for which it does something in some state. */
    private static final String[] MANY = {"write(101)", "wipe()", "fault()", "task()", "equation(0, 5)", "solution(0, 3)",
        "number(3, 2)", "go(1)", "paint(2, 1)", "reach(4)", "add(1, 1, 1, 0)", "drop()", "pin(1, 1)", "undo()", "ask(6)",
        "on()", "judge(3, 300520117005)", "see(1, 4, 0)", "unsee()", "which(1)", "share(0, true)", "luck(false)",
        "lost(3, true)", "seed(77)", "drawn(5)", "keep(1)", "again(1)", "count(5)", "add(1, 2, 3, 1)", "ask(0)", "ask(1)",
        "ask(2)", "ask(3)", "ask(4)", "ask(5)", "go(0)", "pin(2, 9)", "paint(1, 0)", "reach(6)", "keep(0)", "which(0)",
        "number(1, 0)", "share(1, false)", "again(0)", "count(0)", "write(82)", "go(2)"};

    /** What tells something and changes nothing. */
    private static final String[] QUESTIONS = {"fault()", "equation(0, 0)", "equation(0, 1)", "equation(0, 2)",
        "equation(0, 3)", "equation(0, 4)", "equation(0, 5)", "equation(3, 5)", "solution(0, 0)", "solution(0, 99)",
        "number(1, 0)", "number(1, 1)", "number(1, 2)", "number(1, 3)", "ask(0)", "ask(1)", "ask(2)", "ask(3)", "ask(4)",
        "ask(5)", "ask(6)", "on()", "judge(1, 4002)", "judge(2, 30107000)", "judge(4, 1011201130013002)", "which(0)",
        "which(1)", "share(0, true)", "share(0, false)", "share(3, true)", "luck(true)", "luck(false)", "lost(0, true)",
        "lost(10, false)", "lost(5, true)", "count(0)", "count(1)", "count(2)", "count(3)", "count(4)", "count(5)",
        "count(6)"};

    private static final String[] SCENES = {"",
        text("R042e111=p010") + "task();keep(0);pin(1, 9);go(1);see(1, 2, 0);seed(5);write(101)",
        text("R053e111=e112!ea22!eb21=") + "task();reach(7);go(3);keep(1);pin(7, 2);see(1, 10, 1);seed(-1)",
        text("R052e111=") + "task();keep(0);drop();undo();see(2, 3, 1);see(2, 3, 0)",
        text("R102") + "task();go(700);paint(10, 1);keep(1);add(4, 3, 1, 1);reach(10);wipe()"};

    private DocumentTest() {
    }

    public static void main(String[] args) {
        allCallsOfAnObject();
        laterCallsAreFree();
        sameCallsSameAnswers();
        questionsChangeNothing();
        fractions();
        Check.end("DocumentTest");
    }

    /** Calls that write a text, with a semicolon behind each. */
    private static String text(String letters) {
        StringBuilder calls = new StringBuilder();
        for (char letter : letters.toCharArray()) {
            calls.append("write(").append((int) letter).append(");");
        }
        return calls.toString();
    }

    /** A run of this many calls: a text is read first, then the methods follow in an order of the run's own. */
    private static List<String> run(String start, int step, int calls) {
        List<String> all = new ArrayList<>(List.of((text(start) + "task()").split(";")));
        for (int i = 0; all.size() < calls; i++) {
            all.add(MANY[(i * step + i / MANY.length) % MANY.length]);
        }
        return all;
    }

    private static void allCallsOfAnObject() {
        String[] starts = {"R042e111=", "R063e111=e123!p021", "R052e11a=p050", "R033"};
        for (int step = 1; step < 12; step++) {
            AvoidColours fast = new AvoidColours();
            Slow slow = new Slow();
            int made = 0;
            for (String call : run(starts[step % starts.length], step, CALLS)) {
                made++;
                Check.same("call " + made + " of run " + step + ": " + call, Script.call(fast, call), Script.call(slow, call));
            }
            Check.same("calls of run " + step, made, CALLS);
        }
    }

    /** Free is what they answer, but none may throw. */
    private static void laterCallsAreFree() {
        AvoidColours x = new AvoidColours();
        int answered = 0;
        for (String call : run("R043e111=", 5, 20 * CALLS)) {
            Script.call(x, call);
            answered++;
        }
        Check.same("later calls", answered, 20 * CALLS);
    }

    private static void sameCallsSameAnswers() {
        AvoidColours one = new AvoidColours();
        List<Long> answers = new ArrayList<>();
        List<String> calls = run("R052e111!p021", 3, CALLS);
        for (String call : calls) {
            answers.add(Script.call(one, call));
        }
        AvoidColours two = new AvoidColours();
        AvoidColours beside = new AvoidColours();
        List<String> others = run("R073e112=", 7, CALLS);
        for (int i = 0; i < CALLS; i++) {
            Script.call(beside, others.get(i));
            Check.same("the same calls again, call " + i, Script.call(two, calls.get(i)), answers.get(i));
        }
    }

    private static AvoidColours prepared(String scene) {
        AvoidColours x = new AvoidColours();
        for (String call : scene.split(";")) {
            if (!call.isEmpty()) {
                Check.yes(call + " is not refused", Script.call(x, call) >= 0);
            }
        }
        return x;
    }

    private static void questionsChangeNothing() {
        for (String scene : SCENES) {
            List<Long> due = Script.look(prepared(scene));
            AvoidColours all = prepared(scene);
            for (String question : QUESTIONS) {
                AvoidColours x = prepared(scene);
                long first = Script.call(x, question);
                Check.same(scene + ": " + question + " twice", Script.call(x, question), first);
                Check.same(scene + ": " + question + " after others", Script.call(all, question), first);
                Check.yes(scene + ": " + question + " changes nothing", Script.look(x).equals(due));
            }
            Check.yes(scene + ": all questions change nothing", Script.look(all).equals(due));
        }
    }

    private static void fractions() {
        String[] texts = {"R012", "R042e111=", "R052e111!e112!", "R062e111=e112!e121=", "R063e111=e112!e121=e22c!p011",
            "R072e113!e111!e12c=e313!p020p071", "R022e112=e111=e111=e111=", "R033e112=e112=e112=p010", "R102e431!p101"};
        for (String text : texts) {
            AvoidColours x = Check.of(text);
            fraction(text + ": luck", x.luck(true), x.luck(false));
            for (int tenths = 0; tenths <= 10; tenths++) {
                fraction(text + ": lost " + tenths, x.lost(tenths, true), x.lost(tenths, false));
                Check.yes(text + ": a probability", x.lost(tenths, true) <= x.lost(tenths, false));
            }
            for (int e = 0; e < x.count(3); e++) {
                fraction(text + ": share " + e, x.share(e, true), x.share(e, false));
            }
        }
    }

    private static void fraction(String which, int above, int below) {
        Check.yes(which + ", a denominator above 0", below > 0);
        int divisors = 0;
        for (int divisor = 2; divisor <= below; divisor++) {
            divisors += above % divisor == 0 && below % divisor == 0 ? 1 : 0;
        }
        Check.same(which + ", divisors of both " + above + " and " + below, divisors, 0);
    }
}
