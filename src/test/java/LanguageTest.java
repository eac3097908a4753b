import java.lang.reflect.Constructor;
import java.lang.reflect.Field;
import java.lang.reflect.Method;
import java.lang.reflect.Modifier;
import java.nio.file.Files;
import java.nio.file.Path;
import java.util.Arrays;
import java.util.Set;
import java.util.TreeSet;
import java.util.regex.Matcher;
import java.util.regex.Pattern;

/** The public face as the document tells it, and those rules of LANGUAGE.md that can be seen from outside. */
public final class LanguageTest {
    private static final String[] FACE = {
        "int plot(int, int)", "int shirt(int)", "int night(int)", "int undo()", "int nettles(int)", "int sewn(int)",
        "int has(int)", "int plan(int, int)", "int inTime(int, int, int)", "int fewest(int)", "int left(int, int)",
        "int stings(int, int, int)", "int surest(int, int, int, int)", "int told(int, int)", "int bare(int, int)",
        "int sign(int)", "int hush()", "int law(int, int)", "int noLaw(int)", "int word(int)", "int silent()",
        "int met(int, int)", "int show(int, int)", "int noTrial()", "int lasts(int, int)", "int type(long, int)",
        "int clear()", "int read()", "long part(int)", "int image(int)", "int from(int)", "int status(int)",
        "int count(int)", "long digest()"};

    private static final String[] FORBIDDEN = {
        "\\bthrow\\b", "\\bthrows\\b", "\\btry\\b", "\\bcatch\\b", "\\bsynchronized\\b", "\\bassert\\b", "->", "::",
        "\\bObject\\b", "\\bSystem\\.(?!arraycopy)", "Exact\\b", "\\.(hashCode|getClass|toString)\\b", "@", "\\bdouble\\b",
        "\\bfloat\\b", "\\bprotected\\b"};

    public static void main(String[] args) throws Exception {
        theFace();
        theClassesInside();
        String code = codeOf(Files.readString(Path.of("src/main/java/NettleShirts.java")));
        for (String words : FORBIDDEN) {
            Check.holds("no " + words, !Pattern.compile(words).matcher(code).find());
        }
        Check.holds("signs 1 to 127 alone", code.chars().allMatch(c -> c > 0 && c < 128));
        methodsAreShort(code);
        Check.end();
    }

    private static void theFace() {
        Class<?> face = NettleShirts.class;
        Check.holds("public and final", Modifier.isPublic(face.getModifiers()) && Modifier.isFinal(face.getModifiers()));
        Set<String> open = new TreeSet<>();
        for (Method m : face.getDeclaredMethods()) {
            if (Modifier.isPublic(m.getModifiers())) {
                String types = Arrays.toString(m.getParameterTypes());
                open.add(m.getReturnType() + " " + m.getName() + "(" + types.substring(1, types.length() - 1) + ")");
            } else {
                Check.holds(m + " is private", Modifier.isPrivate(m.getModifiers()));
            }
        }
        Check.holds("the methods of the face: " + open, open.equals(new TreeSet<>(Arrays.asList(FACE))));
        Constructor<?>[] made = face.getDeclaredConstructors();
        Check.holds("one constructor", made.length == 1 && Modifier.isPublic(made[0].getModifiers()));
        Set<String> constants = new TreeSet<>();
        for (Field f : face.getDeclaredFields()) {
            if (Modifier.isPublic(f.getModifiers())) {
                constants.add(f.getName());
            } else {
                Check.holds(f + " is private", Modifier.isPrivate(f.getModifiers()));
            }
        }
        Check.holds("the constants", constants.equals(Set.of("NONE", "BAD", "NO", "FULL")));
    }

    private static void theClassesInside() {
        Class<?>[] inside = NettleShirts.class.getDeclaredClasses();
        Check.holds("some twelve classes", inside.length + 1 <= 12);
        for (Class<?> c : inside) {
            Check.holds(c + " is static", Modifier.isStatic(c.getModifiers()));
            int fields = 0;
            for (Field f : c.getDeclaredFields()) {
                boolean fixed = Modifier.isStatic(f.getModifiers());
                Check.holds(f + " is final if static", !fixed || Modifier.isFinal(f.getModifiers()));
                fields += fixed ? 0 : 1;
            }
            Check.holds(c + " has some twenty fields", fields <= 20);
            for (Method m : c.getDeclaredMethods()) {
                boolean isOfFace = Arrays.stream(FACE).anyMatch(f -> f.contains(" " + m.getName() + "("));
                Check.holds(m + " has no name of the face", !isOfFace);
                Check.holds(m + " has seven parameters at most", m.getParameterCount() <= 7);
            }
        }
    }

    /** Without comments, and with the texts left empty. */
    private static String codeOf(String source) {
        String bare = source.replaceAll("(?s)/\\*.*?\\*/", "").replaceAll("//[^\n]*", "");
        return bare.replaceAll("\"[^\"\n]*\"", "\"\"");
    }

    private static void methodsAreShort(String code) {
        Matcher head = Pattern.compile("\n( +)[^\n=;]*\\) \\{\n").matcher(code);
        while (head.find()) {
            int end = code.indexOf("\n" + head.group(1) + "}", head.end() - 1);
            String body = code.substring(head.end(), Math.max(end, head.end()));
            Check.holds("short: " + head.group().trim(), body.lines().count() <= 60);
        }
    }
}
