import java.io.IOException;
import java.lang.reflect.Constructor;
import java.lang.reflect.Field;
import java.lang.reflect.Method;
import java.lang.reflect.Modifier;
import java.nio.file.Files;
import java.nio.file.Path;
import java.util.Arrays;
import java.util.Set;
import java.util.TreeSet;
import java.util.regex.Matcher;
import java.util.regex.Pattern;

/** The rules of LANGUAGE.md that can be seen from the outside: the face, forbidden words and sizes. */
public final class LanguageTest {
    private static final String[] FACE = {
        "setCycle(int,int)", "holiday(int,boolean)", "addGroup()", "addTeacher(int,int)", "addRoom(int)",
        "addCourse(int,int,int,int,int)", "join(int,int)", "bar(int,int,boolean)", "place(int,int,int)",
        "takeAway(int,int)", "move(int,int,int,int)", "swap(int,int,int,int)", "fill(int)", "type(char)",
        "clearText()", "readPlacings()", "undo()", "keep()", "restore()", "reason(int,int,int)",
        "course(int,int)", "lessonAt(int,int)", "groupAt(int,int,int)", "roomAt(int,int)", "teacherAt(int,int)",
        "teacher(int,int)", "group(int,int,int)", "room(int,int)", "dayOf(int)", "nextDate(int,int)", "count(int)"};
    private static final String[] CONSTANTS = {"UNKNOWN", "BAD_VALUE", "FULL", "NOT_POSSIBLE", "NONE"};
    private static final String[] FORBIDDEN = {
        "throw", "throws", "try", "catch", "finally", "synchronized", "assert", "import", "package", "->", "::",
        "protected", "volatile", "transient", "native", "equals", "hashCode", "toString", "Exact", "System.in",
        "System.out", "currentTimeMillis", "nanoTime", "Random", "Thread", "float", "double"};
    private static final int MOST_LINES = 60;

    public static void main(String[] args) throws IOException {
        face();
        insides();
        words();
        Check.end();
    }

    private static void face() {
        Class<?> c = CycleTimetable.class;
        Check.must(Modifier.isPublic(c.getModifiers()) && Modifier.isFinal(c.getModifiers()), "class is not public final");
        Constructor<?>[] constructors = c.getDeclaredConstructors();
        Check.must(constructors.length == 1 && Modifier.isPublic(constructors[0].getModifiers())
                && constructors[0].getParameterCount() == 0, "constructor");
        Set<String> names = new TreeSet<>();
        Set<String> faces = new TreeSet<>(Arrays.asList(FACE));
        for (Method m : c.getDeclaredMethods()) {
            String name = m.toString().replaceAll(".*CycleTimetable\\.", "");
            if (Modifier.isPrivate(m.getModifiers())) {
                Check.must(!isPublicName(m.getName()), "a private method is named " + m.getName());
            } else {
                Check.must(m.getReturnType() == int.class && Modifier.isPublic(m.getModifiers()), "not an int: " + m);
                names.add(name);
            }
        }
        Check.must(names.equals(faces), "the face is " + names);
        for (int i = 0; i < CONSTANTS.length; i++) {
            constant(CONSTANTS[i], -1 - i);
        }
        for (Field f : c.getDeclaredFields()) {
            boolean isConstant = Arrays.asList(CONSTANTS).contains(f.getName());
            Check.must(isConstant || Modifier.isPrivate(f.getModifiers()), "not private: " + f);
            Check.must(!Modifier.isStatic(f.getModifiers()) || Modifier.isFinal(f.getModifiers()), "static state: " + f);
        }
    }

    private static boolean isPublicName(String name) {
        return Arrays.stream(FACE).anyMatch(f -> f.startsWith(name + "("));
    }

    private static void constant(String name, int due) {
        try {
            Field f = CycleTimetable.class.getField(name);
            int wanted = Modifier.PUBLIC | Modifier.STATIC | Modifier.FINAL;
            Check.must(f.getModifiers() == wanted && f.getType() == int.class && f.getInt(null) == due, "constant " + name);
        } catch (ReflectiveOperationException e) {
            Check.must(false, "no constant " + name);
        }
    }

    private static void insides() {
        Class<?>[] inside = CycleTimetable.class.getDeclaredClasses();
        Check.must(inside.length <= 11, "too many classes");
        for (Class<?> c : inside) {
            Check.must(Modifier.isStatic(c.getModifiers()) && !Modifier.isPublic(c.getModifiers()), "class " + c);
            Check.must(c.getDeclaredFields().length <= 20, "too many fields in " + c);
            for (Method m : c.getDeclaredMethods()) {
                Check.must(!isPublicName(m.getName()), c + " has a method of the name " + m.getName());
                Check.must(m.getParameterCount() <= 7, "too many parameters: " + m);
            }
        }
    }

    private static void words() throws IOException {
        String source = Files.readString(Path.of("src/main/java/CycleTimetable.java"));
        Check.must(source.chars().allMatch(c -> c < 128), "a sign that is not ASCII");
        String code = source.replaceAll("(?s)/\\*.*?\\*/", "").replaceAll("//[^\n]*", "");
        for (String word : FORBIDDEN) {
            String edge = Character.isLetter(word.charAt(0)) ? "\\b" : "";
            Check.must(!Pattern.compile(edge + Pattern.quote(word) + edge).matcher(code).find(), "forbidden: " + word);
        }
        // Bodies of methods end with a brace at the depth of their heads.
        Matcher method = Pattern.compile("(?ms)^( {4}| {8})(?!private static final class)[a-z][^;{}=]*\\) \\{\n.*?^\\1\\}").matcher(code);
        int methods = 0;
        while (method.find()) {
            methods++;
            Check.must(method.group().lines().count() <= MOST_LINES, "long: " + method.group().lines().findFirst().get());
        }
        Check.must(methods > 60, "only " + methods + " methods were seen");
    }
}
