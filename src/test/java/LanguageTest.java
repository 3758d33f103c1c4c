import java.io.IOException;
import java.lang.reflect.Constructor;
import java.lang.reflect.Field;
import java.lang.reflect.Method;
import java.lang.reflect.Modifier;
import java.nio.file.Files;
import java.nio.file.Path;
import java.util.Set;
import java.util.TreeSet;
import java.util.regex.Matcher;
import java.util.regex.Pattern;

/** The public face as the document prints it, and the rules of LANGUAGE.md that can be read off the file. */
final class LanguageTest {
    private static final String SOURCE = "src/main/java/AvoidColours.java";
    private static final String[] FACE = {
        "int write(int)", "int wipe()", "int fault()", "int task()", "int equation(int,int)", "int solution(int,int)",
        "int number(int,int)", "int go(int)", "int paint(int,int)", "int reach(int)", "int add(int,int,int,int)",
        "int drop()", "int pin(int,int)", "int undo()", "int ask(int)", "int on()", "int judge(int,long)",
        "int see(int,int,int)", "int unsee()", "int which(int)", "int share(int,boolean)", "int luck(boolean)",
        "int lost(int,boolean)", "long seed(long)", "int drawn(int)", "int keep(int)", "int again(int)", "int count(int)"};
    private static final String[] FORBIDDEN = {
        "\\bthrow\\b", "\\bthrows\\b", "\\btry\\b", "\\bcatch\\b", "\\bsynchronized\\b", "\\bassert\\b", "->", "::",
        "Exact\\s*\\(", "\\bstatic\\s*\\{", "\\bprotected\\b", "^package\\b", "\\bSystem\\.(?!arraycopy)", "\\bRandom\\b",
        "\\bThread\\b", "\\bequals\\b", "\\bhashCode\\b", "\\btoString\\b", "@", "\\bvar\\b", "\\byield\\b",
        "\"", "\\bdouble\\b", "\\bfloat\\b"};
    private static final Set<String> LIBRARY = Set.of("Arrays.fill", "Arrays.copyOf", "Arrays.copyOfRange", "System.arraycopy",
        "Integer.bitCount", "Math.max", "Math.min", "Math.abs", "Math.floorMod", "Math.floorDiv");

    private LanguageTest() {
    }

    public static void main(String[] args) throws IOException {
        face();
        privateNames();
        source(Files.readString(Path.of(SOURCE)));
        Check.end("LanguageTest");
    }

    private static void face() {
        Set<String> due = new TreeSet<>(Set.of(FACE));
        Set<String> found = new TreeSet<>();
        for (Method m : AvoidColours.class.getDeclaredMethods()) {
            if (!Modifier.isPrivate(m.getModifiers())) {
                Check.yes("public and of the object: " + m, m.getModifiers() == Modifier.PUBLIC);
                found.add(signature(m));
            }
        }
        Check.yes("the methods " + found, found.equals(due));
        Set<String> constants = new TreeSet<>();
        for (Field f : AvoidColours.class.getDeclaredFields()) {
            if (!Modifier.isPrivate(f.getModifiers())) {
                Check.yes("a constant: " + f,
                    f.getModifiers() == (Modifier.PUBLIC | Modifier.STATIC | Modifier.FINAL) && f.getType() == int.class);
                constants.add(f.getName());
            }
        }
        Check.yes("the constants " + constants, constants.equals(Set.of("UNKNOWN", "OUTSIDE", "STATE", "FULL", "NONE")));
        Constructor<?>[] constructors = AvoidColours.class.getDeclaredConstructors();
        Check.same("constructors", constructors.length, 1);
        Check.yes("the constructor", Modifier.isPublic(constructors[0].getModifiers())
            && constructors[0].getParameterCount() == 0);
        Check.same("the class", AvoidColours.class.getModifiers(), Modifier.PUBLIC | Modifier.FINAL);
    }

    private static String signature(Method m) {
        StringBuilder text = new StringBuilder(m.getReturnType().getName()).append(' ').append(m.getName()).append('(');
        String comma = "";
        for (Class<?> type : m.getParameterTypes()) {
            text.append(comma).append(type.getName());
            comma = ",";
        }
        return text.append(')').toString();
    }

    private static void privateNames() {
        Set<String> names = new TreeSet<>();
        for (String line : FACE) {
            names.add(line.substring(line.indexOf(' ') + 1, line.indexOf('(')));
        }
        for (Method m : AvoidColours.class.getDeclaredMethods()) {
            Check.yes("a name of its own: " + m, Modifier.isPublic(m.getModifiers()) || !names.contains(m.getName()));
        }
        staticFields(AvoidColours.class);
        Class<?>[] inside = AvoidColours.class.getDeclaredClasses();
        Check.yes("at most 12 classes", inside.length <= 11);
        for (Class<?> c : inside) {
            Check.yes("private, static: " + c,
                Modifier.isStatic(c.getModifiers()) && !Modifier.isPublic(c.getModifiers()));
            Check.yes("at most 20 fields: " + c, c.getDeclaredFields().length <= 20);
            staticFields(c);
            for (Method m : c.getDeclaredMethods()) {
                Check.yes("a name of its own: " + m, !names.contains(m.getName()));
                Check.yes("at most 7 parameters: " + m, m.getParameterCount() <= 7);
            }
        }
    }

    private static void staticFields(Class<?> c) {
        for (Field f : c.getDeclaredFields()) {
            Check.yes("final, if static: " + f, Modifier.isFinal(f.getModifiers()) || !Modifier.isStatic(f.getModifiers()));
        }
    }

    private static void source(String text) {
        String code = text.replaceAll("(?s)/\\*.*?\\*/", "").replaceAll("//[^\n]*", "");
        for (String word : FORBIDDEN) {
            Matcher m = Pattern.compile(word, Pattern.MULTILINE).matcher(code);
            Check.yes("not in the file: " + word, !m.find());
        }
        Matcher imports = Pattern.compile("^import (.*);$", Pattern.MULTILINE).matcher(code);
        while (imports.find()) {
            Check.yes("import " + imports.group(1), imports.group(1).equals("java.util.Arrays"));
        }
        Matcher library = Pattern.compile("\\b(Arrays|System|Integer|Long|Math)\\.\\w+").matcher(code);
        while (library.find()) {
            Check.yes("the library's " + library.group(), LIBRARY.contains(library.group()));
        }
        Check.yes("signs 1 to 126", text.chars().allMatch(sign -> sign >= 1 && sign < 127));
        shortMethods(text);
    }

    private static void shortMethods(String text) {
        int start = 0;
        String[] lines = text.split("\n");
        for (int i = 0; i < lines.length; i++) {
            if (lines[i].matches(" {4,8}(public|private) .*\\) \\{")) {
                start = i;
            }
            if (lines[i].matches(" {4,8}\\}") && start > 0) {
                Check.yes("at most 60 lines: " + lines[start], i - start < 60);
                start = 0;
            }
        }
    }
}
