/** Counts the answers that are not as due, for the test classes of this folder. */
final class Check {
    private static int wrong = 0;
    private static int made = 0;

    private Check() {
    }

    static void same(String call, long got, long due) {
        made++;
        if (got != due) {
            wrong++;
            System.out.println(call + " answered " + got + ", due is " + due);
        }
    }

    static void yes(String what, boolean holds) {
        same(what, holds ? 1 : 0, 1);
    }

    /** Ends the program: exit code 1 if an answer was wrong or nothing was checked. */
    static void end(String name) {
        System.out.println(name + ": " + made + " checks, " + wrong + " wrong");
        if (wrong != 0 || made == 0) {
            System.exit(1);
        }
    }

    /** Writes a text in place of the present one. */
    static void text(AvoidColours x, String letters) {
        x.wipe();
        for (char letter : letters.toCharArray()) {
            x.write(letter);
        }
    }

    /** A new object with this task. */
    static AvoidColours of(String letters) {
        AvoidColours x = new AvoidColours();
        text(x, letters);
        yes("task() of " + letters, x.task() >= 0);
        return x;
    }
}
