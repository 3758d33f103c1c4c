import java.io.IOException;
import java.lang.reflect.Array;
import java.lang.reflect.Constructor;
import java.lang.reflect.Field;
import java.lang.reflect.Method;
import java.lang.reflect.Modifier;
import java.nio.file.Files;
import java.nio.file.Path;
import java.util.ArrayDeque;
import java.util.Collections;
import java.util.IdentityHashMap;
import java.util.List;
import java.util.Set;
import java.util.TreeSet;
import java.util.regex.Matcher;
import java.util.regex.Pattern;

/** The public face as the document prints it, and the rules of LANGUAGE.md that can be read off the file. */
final class LanguageTest {
    private static final String SOURCE = "src/main/java/AvoidColours.java";
    private static final String DOCUMENT = "../shared/DOC.md";
    private static final String[] FACE = {
        "int write(int)", "int wipe()", "int fault()", "int task()", "int equation(int,int)", "int solution(int,int)",
        "int number(int,int)", "int go(int)", "int paint(int,int)", "int reach(int)", "int add(int,int,int,int)",
        "int drop()", "int pin(int,int)", "int undo()", "int ask(int)", "int on()", "int judge(int,long)",
        "int see(int,int,int)", "int unsee()", "int which(int)", "int share(int,boolean)", "int luck(boolean)",
        "int lost(int,boolean)", "long seed(long)", "int drawn(int)", "int keep(int)", "int again(int)", "int count(int)"};
    private static final String[] FORBIDDEN = {
        "\\bthrow\\b", "\\bthrows\\b", "\\btry\\b", "\\bcatch\\b", "\\bsynchronized\\b", "\\bassert\\b", "->", "::",
        "Exact\\s*\\(", "\\bstatic\\s*\\{", "\\bprotected\\b", "^package\\b", "\\bSystem\\.(?!arraycopy)", "\\bRandom\\b",
        "\\bThread\\b", "\\bequals\\b", "\\bhashCode\\b", "\\btoString\\b", "@", "\\bvar\\b", "\\byield\\b",
        "\"", "\\bdouble\\b", "\\bfloat\\b", "\\bnew \\w+\\([^)]*\\) *\\{"};
    private static final Set<String> LIBRARY = Set.of("Arrays.fill", "Arrays.copyOf", "Arrays.copyOfRange", "System.arraycopy",
        "Integer.bitCount", "Math.max", "Math.min", "Math.abs", "Math.floorMod", "Math.floorDiv");

    /** The first line of a method or constructor: the blanks ahead, and the name. */
    private static final Pattern HEAD =
        Pattern.compile("( {4,8})(?:public |private )(?:static )?(?:[\\w\\[\\]]+ )?(\\w+)\\(.*\\) \\{");

    private LanguageTest() {
    }

    public static void main(String[] args) throws IOException, IllegalAccessException {
        String text = Files.readString(Path.of(SOURCE));
        face();
        printedFace(text, Files.readAllLines(Path.of(DOCUMENT)));
        privateNames();
        types(AvoidColours.class);
        source(text);
        methods(text);
        room();
        Check.end("LanguageTest");
    }

    /** Each line of the document's face stands in the file as it is printed, with the names of the parameters. */
    private static void printedFace(String text, List<String> document) {
        int declarations = 0;
        for (String line : document) {
            if (line.startsWith("    public ")) {
                String due = line.endsWith(");") ? "\n" + line.replace(");", ") {\n") : "\n" + line + "\n";
                Check.yes("as it is printed: " + line.trim(), text.contains(due));
                declarations++;
            }
        }
        Check.same("constants, constructor and methods printed", declarations, FACE.length + 2);
    }

    /** The types of rule 3 that are in use here: numbers, boolean, own classes, and arrays of one dimension. */
    private static void types(Class<?> c) {
        for (Field f : c.getDeclaredFields()) {
            Check.yes("the type of " + f, fits(f.getType()));
        }
        for (Method m : c.getDeclaredMethods()) {
            Check.yes("the type of " + m, fits(m.getReturnType()));
            for (Class<?> type : m.getParameterTypes()) {
                Check.yes("the parameter " + type + " of " + m, fits(type));
            }
        }
        for (Class<?> inside : c.getDeclaredClasses()) {
            types(inside);
        }
    }

    private static boolean fits(Class<?> type) {
        Class<?> part = type.isArray() ? type.getComponentType() : type;
        return part.isPrimitive() || part == AvoidColours.class || part.getEnclosingClass() == AvoidColours.class;
    }

    private static void face() {
        Set<String> due = new TreeSet<>(Set.of(FACE));
        Set<String> found = new TreeSet<>();
        for (Method m : AvoidColours.class.getDeclaredMethods()) {
            if (!Modifier.isPrivate(m.getModifiers())) {
                Check.yes("public and of the object: " + m, m.getModifiers() == Modifier.PUBLIC);
                found.add(signature(m));
            }
        }
        Check.yes("the methods " + found, found.equals(due));
        Set<String> constants = new TreeSet<>();
        for (Field f : AvoidColours.class.getDeclaredFields()) {
            if (!Modifier.isPrivate(f.getModifiers())) {
                Check.yes("a constant: " + f,
                    f.getModifiers() == (Modifier.PUBLIC | Modifier.STATIC | Modifier.FINAL) && f.getType() == int.class);
                constants.add(f.getName());
            }
        }
        Check.yes("the constants " + constants, constants.equals(Set.of("UNKNOWN", "OUTSIDE", "STATE", "FULL", "NONE")));
        Constructor<?>[] constructors = AvoidColours.class.getDeclaredConstructors();
        Check.same("constructors", constructors.length, 1);
        Check.yes("the constructor", Modifier.isPublic(constructors[0].getModifiers())
            && constructors[0].getParameterCount() == 0);
        Check.same("the class", AvoidColours.class.getModifiers(), Modifier.PUBLIC | Modifier.FINAL);
    }

    private static String signature(Method m) {
        StringBuilder text = new StringBuilder(m.getReturnType().getName()).append(' ').append(m.getName()).append('(');
        String comma = "";
        for (Class<?> type : m.getParameterTypes()) {
            text.append(comma).append(type.getName());
            comma = ",";
        }
        return text.append(')').toString();
    }

    private static void privateNames() {
        Set<String> names = new TreeSet<>();
        for (String line : FACE) {
            names.add(line.substring(line.indexOf(' ') + 1, line.indexOf('(')));
        }
        for (Method m : AvoidColours.class.getDeclaredMethods()) {
            Check.yes("a name of its own: " + m, Modifier.isPublic(m.getModifiers()) || !names.contains(m.getName()));
        }
        staticFields(AvoidColours.class);
        Class<?>[] inside = AvoidColours.class.getDeclaredClasses();
        Check.yes("at most 12 classes", inside.length <= 11);
        for (Class<?> c : inside) {
            Check.yes("private, static: " + c,
                Modifier.isStatic(c.getModifiers()) && !Modifier.isPublic(c.getModifiers()));
            Check.yes("at most 20 fields: " + c, c.getDeclaredFields().length <= 20);
            staticFields(c);
            for (Method m : c.getDeclaredMethods()) {
                Check.yes("a name of its own: " + m, !names.contains(m.getName()));
                Check.yes("at most 7 parameters: " + m, m.getParameterCount() <= 7);
            }
        }
    }

    private static void staticFields(Class<?> c) {
        for (Field f : c.getDeclaredFields()) {
            Check.yes("final, if static: " + f, Modifier.isFinal(f.getModifiers()) || !Modifier.isStatic(f.getModifiers()));
        }
    }

    private static void source(String text) {
        String code = text.replaceAll("(?s)/\\*.*?\\*/", "").replaceAll("//[^\n]*", "");
        for (String word : FORBIDDEN) {
            Matcher m = Pattern.compile(word, Pattern.MULTILINE).matcher(code);
            Check.yes("not in the file: " + word, !m.find());
        }
        Matcher imports = Pattern.compile("^import (.*);$", Pattern.MULTILINE).matcher(code);
        while (imports.find()) {
            Check.yes("import " + imports.group(1), imports.group(1).equals("java.util.Arrays"));
        }
        Matcher library = Pattern.compile("\\b(Arrays|System|Integer|Long|Math)\\.\\w+").matcher(code);
        while (library.find()) {
            Check.yes("the library's " + library.group(), LIBRARY.contains(library.group()));
        }
        Check.yes("signs 1 to 126", text.chars().allMatch(sign -> sign >= 1 && sign < 127));
    }

    /** A method ends with the brace that stands as far in as its first line. */
    private static void methods(String text) {
        String[] lines = text.split("\n");
        int found = 0;
        for (int i = 0; i < lines.length; i++) {
            Matcher head = HEAD.matcher(lines[i]);
            if (head.matches()) {
                int end = i;
                while (end < lines.length - 1 && !lines[end].equals(head.group(1) + "}")) {
                    end++;
                }
                found++;
                Check.yes("at most 60 lines: " + lines[i].trim(), end - i < 60);
                boolean constructor = Character.isUpperCase(head.group(2).charAt(0));
                for (int j = i; j < end; j++) {
                    boolean makes = lines[j].matches(".*\\bnew\\b.*");
                    Check.yes("makes nothing in a method: " + lines[j].trim(), constructor || !makes);
                }
            }
        }
        Check.yes("methods found: " + found, found >= FACE.length + 1);
    }

    /** Counts the objects and arrays of one object, with their fields and elements, before and after all its calls. */
    private static void room() throws IllegalAccessException {
        AvoidColours x = new AvoidColours();
        int[] before = size(x);
        Check.yes("few objects and arrays: " + before[0], before[0] < 150);
        Check.yes("few fields and elements: " + before[1], before[1] < 6000);
        for (int i = 0; i < 512; i++) {
            x.write(i % 256);
            x.reach(1 + i % 10);
            x.add(1, 1, 1 + i % 3, 0);
            x.see(1, 2, 0);
            x.keep(i % 2);
        }
        int[] after = size(x);
        Check.same("objects and arrays after the calls", after[0], before[0]);
        Check.same("fields and elements after the calls", after[1], before[1]);
    }

    private static int[] size(AvoidColours x) throws IllegalAccessException {
        Set<Object> known = Collections.newSetFromMap(new IdentityHashMap<>());
        ArrayDeque<Object> open = new ArrayDeque<>();
        known.add(x);
        open.add(x);
        int parts = 0;
        while (!open.isEmpty()) {
            for (Object part : partsOf(open.remove())) {
                parts++;
                if (part != null && fits(part.getClass()) && known.add(part)) {
                    open.add(part);
                }
            }
        }
        return new int[] {known.size(), parts};
    }

    private static Object[] partsOf(Object of) throws IllegalAccessException {
        if (of.getClass().isArray()) {
            Object[] parts = new Object[Array.getLength(of)];
            for (int i = 0; i < parts.length; i++) {
                parts[i] = Array.get(of, i);
            }
            return parts;
        }
        Field[] fields = of.getClass().getDeclaredFields();
        Object[] parts = new Object[fields.length];
        for (int i = 0; i < fields.length; i++) {
            if (!Modifier.isStatic(fields[i].getModifiers())) {
                fields[i].setAccessible(true);
                parts[i] = fields[i].get(of);
            }
        }
        return parts;
    }
}
