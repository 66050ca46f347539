import java.io.IOException;
import java.lang.reflect.InvocationTargetException;
import java.lang.reflect.Method;
import java.lang.reflect.Modifier;
import java.nio.file.Files;
import java.nio.file.Path;
import java.util.ArrayList;
import java.util.List;
import java.util.Set;
import java.util.TreeSet;
import java.util.regex.Matcher;
import java.util.regex.Pattern;
import java.util.stream.Stream;

/** What README.md says is so: its examples answer as told, its tables are the face's and name all tests. */
final class ReadmeTest {
    private static final Probe PROBE = new Probe("ReadmeTest");
    private static final Path PAGE = Path.of("README.md");
    private static final Path TESTS = Path.of("src/test/java");
    private static final Pattern BLOCK = Pattern.compile("```java\\n(.*?)```", Pattern.DOTALL);
    private static final Pattern CALL = Pattern.compile("house\\.(\\w+)\\((.*?)\\);\\s+// (throws \\w+|[\\w-]+).*");
    private static final Pattern TELL = Pattern.compile("tell\\(house, \"(.*)\"\\);");
    private static final Pattern ROW = Pattern.compile("\\| `(\\w+)\\((.*?)\\)` \\|.*\\| ?(.*?) ?\\|");
    private static final Pattern NAME = Pattern.compile("`(\\w+)`");

    private static ClockShares house = null;

    public static void main(String[] args) throws IOException, ReflectiveOperationException {
        String page = Files.readString(PAGE);
        examples(page);
        callTables(page);
        testTable(page);
        commands(page);
        PROBE.finish();
    }

    private static void examples(String page) throws IOException, ReflectiveOperationException {
        Matcher blocks = BLOCK.matcher(page);
        int calls = 0;
        int helpers = 0;
        while (blocks.find()) {
            String block = blocks.group(1);
            if (block.startsWith("static ")) {
                helper(block);
                helpers++;
            } else {
                calls += example(block);
            }
        }
        PROBE.is("helpers of the page", helpers, 1);
        PROBE.is("calls of the page are many", calls >= 40, true);
    }

    /** The page's helper is the very one that its texts are told by here. */
    private static void helper(String block) throws IOException {
        String own = Files.readString(TESTS.resolve("ReadmeTest.java"));
        PROBE.is("the helper of the page is here too", unspaced(own).contains(unspaced(block.replace("static ", "private static "))), true);
    }

    private static String unspaced(String text) {
        return text.replaceAll("\\s+", " ");
    }

    private static int example(String block) throws ReflectiveOperationException {
        int calls = 0;
        for (String line : block.split("\n")) {
            Matcher call = CALL.matcher(line);
            Matcher text = TELL.matcher(line);
            if (line.equals("ClockShares house = new ClockShares();")) {
                house = new ClockShares();
            } else if (text.matches()) {
                tell(house, text.group(1).translateEscapes());
            } else if (call.matches()) {
                PROBE.is(line, answer(call.group(1), call.group(2)), call.group(3));
                calls++;
            } else {
                PROBE.is("a line that can be run: " + line, false, true);
            }
        }
        return calls;
    }

    private static void tell(ClockShares house, String text) {
        for (int at = 0; at < text.length(); at += 20) {
            house.feed(four(text, at), four(text, at + 4), four(text, at + 8), four(text, at + 12), four(text, at + 16));
        }
        house.end(text.length());
    }

    private static int four(String text, int at) {
        int number = 0;
        for (int i = at; i < at + 4; i++) {
            number = number << 8 | (i < text.length() ? text.charAt(i) : 0);
        }
        return number;
    }

    /** As the page writes it: a number, NONE, true, false, or throws and the exception's name; "the" for nothing. */
    private static String answer(String name, String told) throws ReflectiveOperationException {
        String[] words = told.isEmpty() ? new String[0] : told.split(", ");
        Method method = faceMethod(name);
        Object[] values = new Object[words.length];
        for (int i = 0; i < words.length; i++) {
            values[i] = method.getParameterTypes()[i] == boolean.class ? (Object) Boolean.valueOf(words[i]) : Integer.decode(words[i]);
        }
        try {
            Object got = method.invoke(house, values);
            return got == null ? "the" : got.equals(ClockShares.NONE) ? "NONE" : got.toString();
        } catch (InvocationTargetException e) {
            return "throws " + e.getCause().getClass().getSimpleName();
        }
    }

    private static Method faceMethod(String name) throws NoSuchMethodException {
        for (Method method : ClockShares.class.getDeclaredMethods()) {
            if (method.getName().equals(name) && Modifier.isPublic(method.getModifiers())) {
                return method;
            }
        }
        throw new NoSuchMethodException(name);
    }

    private static void callTables(String page) throws NoSuchMethodException {
        Set<String> told = new TreeSet<>();
        for (String line : page.split("\n")) {
            Matcher row = ROW.matcher(line);
            if (row.matches()) {
                Method method = faceMethod(row.group(1));
                PROBE.is("told once: " + method.getName(), told.add(method.getName()), true);
                int given = row.group(2).isEmpty() ? 0 : row.group(2).split(", ").length;
                PROBE.is("what is given to " + method.getName(), given, method.getParameterCount());
                List<String> thrown = new ArrayList<>();
                for (Class<?> type : method.getExceptionTypes()) {
                    thrown.add(type.getSimpleName());
                }
                PROBE.is("what is thrown by " + method.getName(), named(row.group(3)).toString(), thrown.toString());
            }
        }
        Set<String> face = new TreeSet<>();
        for (Method method : ClockShares.class.getDeclaredMethods()) {
            if (Modifier.isPublic(method.getModifiers())) {
                face.add(method.getName());
            }
        }
        PROBE.is("calls told", told.toString(), face.toString());
    }

    private static List<String> named(String text) {
        List<String> names = new ArrayList<>();
        Matcher name = NAME.matcher(text);
        while (name.find()) {
            names.add(name.group(1));
        }
        return names;
    }

    /** Every file of the tests is told, as a test or as a helper, and every test that is told is there. */
    private static void testTable(String page) throws IOException {
        String section = page.substring(page.indexOf("\n## Tests\n"));
        Set<String> told = new TreeSet<>();
        for (String name : named(section)) {
            if (Files.exists(TESTS.resolve(name + ".java")) || name.endsWith("Test")) {
                told.add(name);
            }
        }
        Set<String> files = new TreeSet<>();
        try (Stream<Path> paths = Files.list(TESTS)) {
            paths.forEach(path -> files.add(path.getFileName().toString().replace(".java", "")));
        }
        PROBE.is("tests told", told.toString(), files.toString());
    }

    private static void commands(String page) {
        PROBE.is("the page tells how tests are run", page.contains("`.ci/run`"), true);
        PROBE.is(".ci/run can be run", Files.isExecutable(Path.of(".ci/run")), true);
        Matcher path = Pattern.compile("(?:\\.\\./shared|src)/[\\w/.]*\\w").matcher(page);
        int paths = 0;
        while (path.find()) {
            PROBE.is("there is " + path.group(), Files.exists(Path.of(path.group())), true);
            paths++;
        }
        PROBE.is("paths are told", paths > 4, true);
    }
}
