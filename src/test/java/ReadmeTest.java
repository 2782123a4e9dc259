import java.io.IOException;
import java.lang.reflect.Array;
import java.lang.reflect.Field;
import java.lang.reflect.Modifier;
import java.net.URL;
import java.net.URLClassLoader;
import java.nio.file.Files;
import java.nio.file.Path;
import java.util.ArrayList;
import java.util.List;
import java.util.Set;
import java.util.TreeSet;
import java.util.regex.Matcher;
import java.util.regex.Pattern;
import javax.tools.ToolProvider;

/** What README.md says: its example, its constants, its calls, its files and its numbers. */
public final class ReadmeTest {
    private static final Pattern EXAMPLE = Pattern.compile("(?m)^ {4}(.*;) +// (-?\\d+)\\b.*$");
    private static final Pattern CONSTANT = Pattern.compile("\\| `([A-Z_]+)` \\| (-\\d+) \\|");
    private static final Pattern CALL = Pattern.compile("(?m)^\\| `([a-zA-Z]+)\\(([^`]*)\\)` \\|");
    private static final Pattern SIZE = Pattern.compile("(\\d+) objects\\s+and\\s+arrays,\\s+([\\d,]+)\\s+fields");

    private static String readme;

    public static void main(String[] args) throws IOException, ReflectiveOperationException {
        readme = Files.readString(Path.of("README.md"));
        exampleAnswersAsItSays();
        constantsAreAsTold();
        callsAreThoseOfTheFace();
        filesAreThere();
        sizeIsAsTold();
        Check.end();
    }

    private static void exampleAnswersAsItSays() throws IOException, ReflectiveOperationException {
        StringBuilder code = new StringBuilder();
        List<String> statements = new ArrayList<>();
        List<Integer> due = new ArrayList<>();
        Matcher line = EXAMPLE.matcher(readme);
        while (line.find()) {
            String statement = line.group(1);
            boolean names = statement.startsWith("int ");
            String asked = names ? statement.replaceAll("^int (\\w+) = .*$", "$1;") : statement;
            code.append(names ? statement : "").append("answers[").append(due.size()).append("] = ").append(asked);
            statements.add(statement);
            due.add(Integer.parseInt(line.group(2)));
        }
        Check.due("README: enough of an example", due.size() >= 20 ? 1 : 0, 1);
        Matcher begin = Pattern.compile("(?m)^ {4}(CycleTimetable x = new CycleTimetable\\(\\);)").matcher(readme);
        Check.due("README: it begins with a new object", begin.find() ? 1 : 0, 1);
        int[] answers = answersOf("public class ReadmeExample { public static void answer(int[] answers) {"
                + begin.group(1) + code + "} }", due.size());
        for (int i = 0; i < due.size(); i++) {
            Check.due("README: " + statements.get(i), answers[i], due.get(i));
        }
    }

    private static int[] answersOf(String code, int length) throws IOException, ReflectiveOperationException {
        int[] answers = new int[length];
        Path out = Files.createTempDirectory("readme");
        Path file = Files.writeString(out.resolve("ReadmeExample.java"), code);
        int failed = ToolProvider.getSystemJavaCompiler().run(null, null, null,
                "-cp", System.getProperty("java.class.path"), "-d", out.toString(), file.toString());
        Check.due("README: the example compiles", failed, 0);
        if (failed == 0) {
            try (URLClassLoader loader = new URLClassLoader(new URL[] {out.toUri().toURL()})) {
                loader.loadClass("ReadmeExample").getMethod("answer", int[].class).invoke(null, (Object) answers);
            }
        }
        for (String made : new String[] {"ReadmeExample.java", "ReadmeExample.class", ""}) {
            Files.deleteIfExists(out.resolve(made));
        }
        return answers;
    }

    private static void constantsAreAsTold() throws ReflectiveOperationException {
        Matcher row = CONSTANT.matcher(readme);
        int found = 0;
        while (row.find()) {
            found++;
            int value = CycleTimetable.class.getField(row.group(1)).getInt(null);
            Check.due("README: " + row.group(1), Integer.parseInt(row.group(2)), value);
        }
        Check.due("README: constants", found, 5);
    }

    /** Each public method stands in the table once, with as many arguments as it has. */
    private static void callsAreThoseOfTheFace() {
        Set<String> told = new TreeSet<>();
        Matcher row = CALL.matcher(readme);
        while (row.find()) {
            int arguments = row.group(2).isEmpty() ? 0 : row.group(2).split(",").length;
            Check.due("README: " + row.group(1) + " once", told.add(row.group(1) + " " + arguments) ? 1 : 0, 1);
        }
        Set<String> face = new TreeSet<>();
        for (java.lang.reflect.Method m : CycleTimetable.class.getDeclaredMethods()) {
            if (Modifier.isPublic(m.getModifiers())) {
                face.add(m.getName() + " " + m.getParameterCount());
            }
        }
        Check.due("README: the calls " + told, told.equals(face) ? 1 : 0, 1);
    }

    private static void filesAreThere() {
        Matcher name = Pattern.compile("`([A-Z][a-zA-Z]+Test|Check|Model|Schools|Refused)`").matcher(readme);
        int found = 0;
        while (name.find()) {
            found++;
            boolean isThere = Files.exists(Path.of("src/test/java/" + name.group(1) + ".java"));
            Check.due("README: there is " + name.group(1), isThere ? 1 : 0, 1);
        }
        Check.due("README: files are named", found >= 5 ? 1 : 0, 1);
    }

    private static void sizeIsAsTold() throws ReflectiveOperationException {
        Matcher told = SIZE.matcher(readme);
        Check.due("README: a size is told", told.find() ? 1 : 0, 1);
        CycleTimetable x = Schools.busy();
        x.restore();
        x.readPlacings();
        List<Object> seen = new ArrayList<>();
        int cells = sizeOf(x, seen);
        Check.due("README: objects", Integer.parseInt(told.group(1)), seen.size());
        Check.due("README: fields and elements", Integer.parseInt(told.group(2).replace(",", "")), cells);
    }

    /** How many fields and elements an object and all behind it have; they are put into seen. */
    private static int sizeOf(Object object, List<Object> seen) throws ReflectiveOperationException {
        if (object == null || seen.stream().anyMatch(o -> o == object)) {
            return 0;
        }
        seen.add(object);
        int cells = 0;
        if (object.getClass().isArray()) {
            int length = Array.getLength(object);
            for (int i = 0; object instanceof Object[] && i < length; i++) {
                cells += sizeOf(Array.get(object, i), seen);
            }
            return cells + length;
        }
        for (Field field : object.getClass().getDeclaredFields()) {
            if (!Modifier.isStatic(field.getModifiers())) {
                field.setAccessible(true);
                cells += 1 + (field.getType().isPrimitive() ? 0 : sizeOf(field.get(object), seen));
            }
        }
        return cells;
    }
}
