import java.io.IOException;
import java.lang.reflect.Constructor;
import java.lang.reflect.Field;
import java.lang.reflect.Method;
import java.lang.reflect.Modifier;
import java.nio.file.Files;
import java.nio.file.Path;
import java.util.ArrayList;
import java.util.Arrays;
import java.util.List;
import java.util.TreeSet;
import java.util.regex.Matcher;
import java.util.regex.Pattern;

/** The public face, and those rules of LANGUAGE.md that can be seen from outside or in the text. */
public final class FaceTest {
    private static final String[] FACE = {
        "ring(int,int)", "car(int,int,int)", "evenly(int,int)", "set(int,int,int)", "told(int,int)", "type(long,int)",
        "habit(int)", "holds(int)", "board(int,int,int)", "loop(int)", "looped(int,int)", "tap(int)", "ticks(int)",
        "count(int)", "knot(int,int)", "first()", "cost(int,int,int)", "after(int,int)", "calmed(int,int)", "round(int)",
        "evens(int)", "image(int)", "restore(int)", "paces(int,int,int)", "taps(int,int)", "sheet(int,int,int)",
        "drop(int)", "item(int,int,int,int)", "copy(int,int,int,int,int)"};
    private static final String[] CONSTANTS = {"BAD", "NOT", "FULL", "NONE", "NULL", "CAST", "INDEX", "SIZE"};
    private static final int[] VALUES = {-1, -2, -3, -4, -11, -12, -13, -14};
    private static final String[] BANNED = {
        "->", "::", "try", "catch", "finally", "synchronized", "assert", "native", "strictfp", "Thread", "Random",
        "nanoTime", "currentTimeMillis", "java.io", "java.nio", "java.net", "java.time", "instanceof", "float", "double",
        "Object", "HashMap", "Exact", "throw", "hashCode", "toString", "equals"};

    public static void main(String[] args) throws Exception {
        constants();
        methods();
        insides();
        text();
        Due.end();
    }

    private static void constants() throws Exception {
        for (int k = 0; k < CONSTANTS.length; k++) {
            Field f = KnotRing.class.getField(CONSTANTS[k]);
            Due.is(CONSTANTS[k], f.getInt(null), VALUES[k]);
            Due.holds(CONSTANTS[k] + " is a constant", f.getModifiers() == (Modifier.PUBLIC | Modifier.STATIC | Modifier.FINAL));
        }
        for (Field f : KnotRing.class.getDeclaredFields()) {
            boolean told = Arrays.asList(CONSTANTS).contains(f.getName());
            Due.holds(f.getName() + " is private", told || Modifier.isPrivate(f.getModifiers()));
        }
    }

    private static void methods() {
        Due.holds("the class is public and final", KnotRing.class.getModifiers() == (Modifier.PUBLIC | Modifier.FINAL));
        Constructor<?>[] made = KnotRing.class.getDeclaredConstructors();
        Due.holds("one public constructor without arguments",
            made.length == 1 && Modifier.isPublic(made[0].getModifiers()) && made[0].getParameterCount() == 0);
        TreeSet<String> face = new TreeSet<>(Arrays.asList(FACE));
        TreeSet<String> found = new TreeSet<>();
        for (Method m : KnotRing.class.getDeclaredMethods()) {
            if (!Modifier.isPrivate(m.getModifiers())) {
                found.add(signature(m));
                Due.holds(m + " is public, answers an int, throws nothing", m.getModifiers() == Modifier.PUBLIC
                    && m.getReturnType() == int.class && m.getExceptionTypes().length == 0);
            }
        }
        Due.holds("the methods are those of the face: " + found, face.equals(found));
    }

    private static String signature(Method m) {
        List<String> types = new ArrayList<>();
        for (Class<?> c : m.getParameterTypes()) {
            types.add(c.getName());
        }
        return m.getName() + "(" + String.join(",", types) + ")";
    }

    private static void insides() {
        TreeSet<String> publicNames = new TreeSet<>();
        for (String f : FACE) {
            publicNames.add(f.substring(0, f.indexOf('(')));
        }
        Class<?>[] inside = KnotRing.class.getDeclaredClasses();
        Due.holds("at most twelve classes", inside.length <= 11);
        List<Class<?>> all = new ArrayList<>(Arrays.asList(inside));
        all.add(KnotRing.class);
        for (Class<?> c : all) {
            look(c, publicNames);
        }
    }

    private static void look(Class<?> c, TreeSet<String> publicNames) {
        Due.holds(c + " is static and not public", c == KnotRing.class
            || Modifier.isStatic(c.getModifiers()) && !Modifier.isPublic(c.getModifiers()));
        int fields = 0;
        for (Field f : c.getDeclaredFields()) {
            boolean isStatic = Modifier.isStatic(f.getModifiers());
            fields += isStatic ? 0 : 1;
            Due.holds(f + " is no static state", !isStatic || Modifier.isFinal(f.getModifiers()));
        }
        Due.holds(c + " has some twenty fields at most", fields <= 20);
        for (Method m : c.getDeclaredMethods()) {
            Due.holds(m + " has at most seven parameters", m.getParameterCount() <= 7);
            boolean ofFace = c == KnotRing.class && Modifier.isPublic(m.getModifiers());
            Due.holds(m + " has a name of its own", ofFace || !publicNames.contains(m.getName()));
        }
    }

    private static void text() throws IOException {
        List<String> lines = Files.readAllLines(Path.of("src/main/java/KnotRing.java"));
        int inMethod = 0;
        for (String line : lines) {
            String code = line.replaceAll("^\\s*(/?\\*|//).*", "");
            inMethod++;
            if (code.matches("\\s+(\\w+ )*\\w+(\\[\\])? ?\\w*\\([^;]*\\) \\{") && !code.matches("\\s+(if|for|while|switch|\\}).*")) {
                inMethod = 0;
            }
            Due.holds("a method of sixty lines at most, at: " + line, inMethod <= 60);
            for (String word : BANNED) {
                Pattern p = Pattern.compile(Character.isLetter(word.charAt(0)) ? "\\b" + word + "\\b" : Pattern.quote(word));
                Matcher m = p.matcher(code);
                Due.holds("no '" + word + "' in: " + line, !m.find());
            }
            Due.holds("plain signs in: " + line, line.matches("[ -~]*"));
        }
        Due.holds("no package line", !lines.get(0).startsWith("package"));
    }
}
