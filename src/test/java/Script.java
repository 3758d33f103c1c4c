import java.lang.reflect.InvocationTargetException;
import java.lang.reflect.Method;
import java.util.ArrayList;
import java.util.List;

/**
 * Runs calls that are told by a text, on a new object and on the model Slow. The steps stand between semicolons:
 * "go(5) 2" is a call with the answer that is due; "! go(99) -1" is one that must leave all else as it was;
 * "R042e111=" puts this text in place of the text and reads it; "'R0" appends to the text.
 */
final class Script {
    private static final int MOST_CALLS = 512;

    private final String sentence;
    private final AvoidColours fast = new AvoidColours();
    private final Slow slow = new Slow();
    private final List<String> made = new ArrayList<>();
    private int calls;

    private Script(String sentence) {
        this.sentence = sentence;
    }

    static void run(String sentence, String steps) {
        Script s = new Script(sentence);
        for (String step : steps.split(";")) {
            s.step(step.trim());
        }
    }

    /** The same step several times, as steps. */
    static String times(int n, String step) {
        return step.concat("; ").repeat(n);
    }

    private void step(String step) {
        if (step.isEmpty()) {
            return;
        }
        if (step.startsWith("'") || step.startsWith("R")) {
            for (String call : callsOf(step)) {
                both(call, null);
            }
            return;
        }
        boolean quiet = step.startsWith("!");
        int end = step.indexOf(')') + 1;
        String call = step.substring(quiet ? 1 : 0, end).trim();
        if (quiet) {
            leavesAll(call);
        }
        both(call, Long.parseLong(step.substring(end).trim()));
    }

    private static List<String> callsOf(String step) {
        List<String> all = new ArrayList<>();
        boolean whole = step.startsWith("R");
        if (whole) {
            all.add("wipe()");
        }
        for (char letter : step.substring(whole ? 0 : 1).toCharArray()) {
            all.add("write(" + (int) letter + ")");
        }
        if (whole) {
            all.add("task()");
        }
        return all;
    }

    /** Makes the call on both; what is due is what is told and, in any case, what the model answers. */
    private void both(String call, Long due) {
        String where = sentence + ": " + call;
        calls++;
        Check.yes(where + " is within the calls of an object", calls <= MOST_CALLS);
        long model = call(slow, call);
        if (due != null) {
            Check.same(where + " of the model", model, due);
        } else {
            Check.yes(where + " is not refused", model >= 0);
        }
        Check.same(where, call(fast, call), model);
        made.add(call);
    }

    /** Compares two objects with the calls so far, of which one has this call as well. */
    private void leavesAll(String call) {
        AvoidColours without = new AvoidColours();
        AvoidColours with = new AvoidColours();
        for (String before : made) {
            call(without, before);
            call(with, before);
        }
        call(with, call);
        List<Long> due = look(without);
        List<Long> got = look(with);
        Check.same(sentence + ": " + call + ", answers after it", got.size(), due.size());
        Check.yes(sentence + ": calls to look", made.size() + due.size() < MOST_CALLS);
        for (int i = 0; i < due.size() && i < got.size(); i++) {
            Check.same(sentence + ": " + call + ", answer " + i + " after it", got.get(i), due.get(i));
        }
    }

    /** All that an object shows, then all that undo(), the slots and the text bring back. */
    static List<Long> look(AvoidColours x) {
        List<Long> answers = new ArrayList<>();
        for (int what = 0; what < 7; what++) {
            answers.add((long) x.count(what));
            answers.add((long) x.ask(what));
        }
        for (int e = 0; e < x.count(3); e++) {
            for (int what = 0; what < 4; what++) {
                answers.add((long) x.equation(e, what));
            }
        }
        for (int number = 1; number <= x.count(1); number++) {
            answers.add((long) x.number(number, 0));
            answers.add((long) x.number(number, 1));
        }
        answers.add((long) x.fault());
        answers.add((long) x.which(0));
        answers.add((long) x.which(1));
        answers.add(x.seed(0));
        long left = x.count(5);
        for (int i = 0; i < 15 && left >= 0; i++) {
            left = x.undo();
            answers.add(left);
            glance(x, answers);
        }
        for (int slot = 0; slot < 2; slot++) {
            answers.add((long) x.again(slot));
            glance(x, answers);
        }
        answers.add((long) x.task());
        glance(x, answers);
        return answers;
    }

    private static void glance(AvoidColours x, List<Long> answers) {
        answers.add((long) x.count(1));
        answers.add((long) x.count(3));
        answers.add((long) x.count(4));
        answers.add((long) x.ask(0));
        answers.add((long) x.ask(1));
        answers.add((long) x.ask(3));
    }

    static long call(Object on, String call) {
        String name = call.substring(0, call.indexOf('('));
        String inside = call.substring(name.length() + 1, call.length() - 1);
        String[] words = inside.isEmpty() ? new String[0] : inside.split(", *");
        for (Method m : on.getClass().getDeclaredMethods()) {
            if (m.getName().equals(name) && m.getParameterCount() == words.length) {
                return invoke(on, m, words);
            }
        }
        throw new IllegalArgumentException("no such method: " + call);
    }

    private static long invoke(Object on, Method m, String[] words) {
        Object[] given = new Object[words.length];
        for (int i = 0; i < given.length; i++) {
            given[i] = value(m.getParameterTypes()[i], words[i]);
        }
        try {
            return ((Number) m.invoke(on, given)).longValue();
        } catch (IllegalAccessException | InvocationTargetException e) {
            throw new IllegalStateException("thrown in " + m.getName(), e);
        }
    }

    private static Object value(Class<?> type, String word) {
        if (type == boolean.class) {
            Check.yes("true or false: " + word, word.equals("true") || word.equals("false"));
            return word.equals("true");
        }
        boolean wide = type == long.class;
        if (word.equals("MIN")) {
            return wide ? (Object) Long.MIN_VALUE : (Object) Integer.MIN_VALUE;
        }
        if (word.equals("MAX")) {
            return wide ? (Object) Long.MAX_VALUE : (Object) Integer.MAX_VALUE;
        }
        return wide ? (Object) Long.valueOf(word) : (Object) Integer.valueOf(word);
    }
}
