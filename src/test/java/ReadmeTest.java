import java.lang.reflect.Method;
import java.lang.reflect.Modifier;
import java.nio.file.Files;
import java.nio.file.Path;
import java.util.ArrayList;
import java.util.List;
import java.util.Set;
import java.util.TreeSet;
import java.util.regex.Matcher;
import java.util.regex.Pattern;
import java.util.stream.Stream;

/** What README.md tells of calls is held against the class, and what it tells of tests against the tests there are. */
public final class ReadmeTest {
    private static final Pattern MADE = Pattern.compile("NettleShirts x = new NettleShirts\\(\\);");
    private static final Pattern CALL = Pattern.compile("x\\.(\\w+)\\(([^)]*)\\); *// (-?\\d+)(:.*)?");
    private static final Pattern ROW_OF_CALL = Pattern.compile("(?m)^\\| `(\\w+\\([^`]*\\))` \\|");
    private static final Pattern ROW_OF_TEST = Pattern.compile("(?m)^\\| (\\w+Test) \\|");
    private static final Pattern ROW_OF_CONSTANT = Pattern.compile("(?m)^\\| `([A-Z]+)` \\| (-?\\d+) \\|");
    private static final Pattern OPEN = Pattern.compile("(?m)^    public (?:int|long) (\\w+)\\(([^)]*)\\) \\{");

    public static void main(String[] args) throws Exception {
        String readme = Files.readString(Path.of("README.md"));
        Set<String> asked = new TreeSet<>();
        for (List<String> lines : examples(readme)) {
            follow(lines, asked);
        }
        Check.holds("examples ask " + asked.size() + " of the calls", asked.size() >= 20);
        everyCallIsNamed(readme);
        everyConstantIsTold(readme);
        everyTestIsNamed(readme);
        Check.end();
    }

    private static List<List<String>> examples(String readme) {
        List<List<String>> found = new ArrayList<>();
        Matcher block = Pattern.compile("(?s)```java\n(.*?)```").matcher(readme);
        while (block.find()) {
            found.add(block.group(1).lines().toList());
        }
        Check.holds("there are examples", !found.isEmpty());
        return found;
    }

    /** Each line of an example makes the object or asks it; a line that does neither is a fault of the page. */
    private static void follow(List<String> lines, Set<String> asked) throws Exception {
        NettleShirts x = null;
        for (String line : lines) {
            Matcher call = CALL.matcher(line);
            if (MADE.matcher(line).matches()) {
                x = new NettleShirts();
            } else if (x != null && call.matches()) {
                asked.add(call.group(1));
                Check.due("README: " + line, answer(x, call.group(1), call.group(2)), Long.parseLong(call.group(3)));
            } else {
                Check.holds("a line of an example: " + line, false);
            }
        }
    }

    private static long answer(NettleShirts x, String name, String told) throws Exception {
        String[] numbers = told.isBlank() ? new String[0] : told.split(", *");
        for (Method m : NettleShirts.class.getMethods()) {
            if (m.getName().equals(name) && m.getParameterCount() == numbers.length) {
                Object[] all = new Object[numbers.length];
                for (int k = 0; k < all.length; k++) {
                    long v = Long.decode(numbers[k].replace("L", ""));
                    all[k] = m.getParameterTypes()[k] == long.class ? (Object) v : (Object) (int) v;
                }
                return ((Number) m.invoke(x, all)).longValue();
            }
        }
        Check.holds("there is a call " + name + "(" + told + ")", false);
        return 0;
    }

    private static void everyCallIsNamed(String readme) throws Exception {
        Set<String> open = new TreeSet<>();
        Matcher head = OPEN.matcher(Files.readString(Path.of("src/main/java/NettleShirts.java")));
        while (head.find()) {
            open.add(head.group(1) + "(" + head.group(2).replaceAll("\\b(int|long) ", "") + ")");
        }
        Check.due("calls of the face", open.size(), 34);
        Check.holds("the calls README has are those of the class: " + open, all(ROW_OF_CALL, readme).equals(open));
    }

    private static void everyConstantIsTold(String readme) throws Exception {
        Matcher row = ROW_OF_CONSTANT.matcher(readme);
        int rows = 0;
        while (row.find()) {
            rows++;
            int value = NettleShirts.class.getField(row.group(1)).getInt(null);
            Check.due("README: " + row.group(1), value, Long.parseLong(row.group(2)));
        }
        long open = Stream.of(NettleShirts.class.getFields()).filter(f -> Modifier.isStatic(f.getModifiers())).count();
        Check.due("constants that README tells", rows, open);
    }

    private static void everyTestIsNamed(String readme) throws Exception {
        Set<String> there = new TreeSet<>();
        try (Stream<Path> files = Files.list(Path.of("src/test/java"))) {
            files.map(f -> f.getFileName().toString()).filter(f -> f.endsWith("Test.java"))
                .forEach(f -> there.add(f.substring(0, f.length() - ".java".length())));
        }
        Check.holds("the tests README has are those there are: " + there, all(ROW_OF_TEST, readme).equals(there));
    }

    private static Set<String> all(Pattern row, String readme) {
        Set<String> found = new TreeSet<>();
        Matcher m = row.matcher(readme);
        while (m.find()) {
            found.add(m.group(1));
        }
        return found;
    }
}
