import java.io.IOException;
import java.lang.reflect.Method;
import java.lang.reflect.Modifier;
import java.nio.file.DirectoryStream;
import java.nio.file.Files;
import java.nio.file.Path;
import java.util.List;
import java.util.Set;
import java.util.TreeSet;
import java.util.regex.Matcher;
import java.util.regex.Pattern;

/** What README.md says: its examples are called, its tables held against the class and the tests. */
public final class ReadmeTest {
    private static final Pattern CALL = Pattern.compile("x\\.(\\w+)\\((.*)\\);\\s+// (-?\\d+)(:.*)?");
    private static final Pattern CALL_ROW = Pattern.compile("\\| `(\\w+)\\((.*)\\)` \\| .*");
    private static final Pattern TEST_ROW = Pattern.compile("\\| (\\w+Test) \\| .*");
    private static final Pattern CONSTANT_ROW = Pattern.compile("\\| `([A-Z]+)` (-\\d+) \\| .*");
    private static final Check CHECK = new Check();

    public static void main(String[] args) throws IOException, ReflectiveOperationException {
        List<String> lines = Files.readAllLines(Path.of("README.md"));
        examples(lines);
        calls(lines);
        constants(lines);
        tests(lines);
        CHECK.finish("ReadmeTest");
    }

    private static void examples(List<String> lines) throws ReflectiveOperationException {
        TraceBench x = null;
        boolean inside = false;
        int benches = 0;
        for (String line : lines) {
            if (line.startsWith("```")) {
                inside = line.equals("```java");
            } else if (inside && line.equals("TraceBench x = new TraceBench();")) {
                x = new TraceBench();
                benches++;
            } else if (inside) {
                Matcher call = CALL.matcher(line);
                CHECK.due("'" + line + "' has a call and its answer", call.matches() && x != null ? 1 : 0, 1);
                if (call.matches() && x != null) {
                    CHECK.due(line, answer(x, call.group(1), call.group(2)), Long.parseLong(call.group(3)));
                }
            }
        }
        CHECK.due("examples", benches, 3);
    }

    private static long answer(TraceBench x, String name, String numbers) throws ReflectiveOperationException {
        String[] parts = split(numbers);
        Method method = named(name);
        CHECK.due("numbers of " + name, method == null ? -1 : method.getParameterCount(), parts.length);
        if (method == null || method.getParameterCount() != parts.length) {
            return Long.MIN_VALUE;
        }
        Object[] values = new Object[parts.length];
        for (int i = 0; i < parts.length; i++) {
            long v = number(parts[i]);
            if (method.getParameterTypes()[i] == int.class) {
                values[i] = Math.toIntExact(v);
            } else {
                values[i] = v;
            }
        }
        return ((Number) method.invoke(x, values)).longValue();
    }

    private static long number(String text) {
        String plain = text.replace("_", "").replace("L", "");
        return plain.startsWith("0x") ? Long.parseUnsignedLong(plain.substring(2), 16) : Long.parseLong(plain);
    }

    private static String[] split(String list) {
        return list.isEmpty() ? new String[0] : list.split(", ");
    }

    private static Method named(String name) {
        for (Method m : TraceBench.class.getDeclaredMethods()) {
            if (Modifier.isPublic(m.getModifiers()) && m.getName().equals(name)) {
                return m;
            }
        }
        return null;
    }

    private static void calls(List<String> lines) {
        Set<String> told = new TreeSet<>();
        for (String line : lines) {
            Matcher row = CALL_ROW.matcher(line);
            if (row.matches()) {
                told.add(row.group(1) + " " + split(row.group(2)).length);
            }
        }
        Set<String> there = new TreeSet<>();
        for (Method m : TraceBench.class.getDeclaredMethods()) {
            if (Modifier.isPublic(m.getModifiers())) {
                there.add(m.getName() + " " + m.getParameterCount());
            }
        }
        // The table of readings names told(9) too, which is the same call.
        CHECK.same("calls", told.toString(), there.toString());
    }

    private static void constants(List<String> lines) throws ReflectiveOperationException {
        int seen = 0;
        for (String line : lines) {
            Matcher row = CONSTANT_ROW.matcher(line);
            if (row.matches()) {
                seen++;
                CHECK.due(row.group(1), TraceBench.class.getField(row.group(1)).getInt(null),
                    Integer.parseInt(row.group(2)));
            }
        }
        CHECK.due("constants", seen, 4);
    }

    private static void tests(List<String> lines) throws IOException {
        Set<String> told = new TreeSet<>();
        for (String line : lines) {
            Matcher row = TEST_ROW.matcher(line);
            if (row.matches()) {
                told.add(row.group(1));
            }
        }
        Set<String> there = new TreeSet<>();
        try (DirectoryStream<Path> files = Files.newDirectoryStream(Path.of("src/test/java"), "*Test.java")) {
            for (Path file : files) {
                there.add(file.getFileName().toString().replace(".java", ""));
            }
        }
        CHECK.same("tests", told.toString(), there.toString());
    }
}
