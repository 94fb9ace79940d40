import java.io.IOException;
import java.lang.reflect.Method;
import java.nio.file.Files;
import java.nio.file.Path;
import java.util.HashMap;
import java.util.Map;
import java.util.Set;
import java.util.TreeSet;
import java.util.regex.Matcher;
import java.util.regex.Pattern;
import java.util.stream.Collectors;
import java.util.stream.Stream;

/** What README.md says is so: its example's answers, its tables of calls and tests, its commands, its parts. */
final class ReadmeTest {
    /** A line of the example: a name for the answer, the call, its arguments, the answer that is told. */
    private static final Pattern CALL =
            Pattern.compile("(?:int (\\w+) = )?room\\.(\\w+)\\(([^)]*)\\);(?: +// ?(-?\\d+)?.*)?");

    private ReadmeTest() {
    }

    public static void main(String[] args) throws IOException, ReflectiveOperationException {
        String readme = Files.readString(Path.of("README.md"));
        example(readme);
        tableOfCalls(readme);
        tableOfTests(readme);
        commands(readme);
        classesInside(readme);
        Check.end("ReadmeTest");
    }

    private static void example(String readme) throws ReflectiveOperationException {
        LampChoice room = new LampChoice();
        Map<String, Integer> names = new HashMap<>(Map.of("LampChoice.NONE", -1, "LampChoice.NO", -2));
        Set<String> answered = new TreeSet<>();
        for (String line : block(readme, "java").split("\n")) {
            if (!line.isEmpty() && !line.equals("LampChoice room = new LampChoice();")) {
                Matcher call = CALL.matcher(line);
                Check.dueText("a call: " + line, "" + call.matches(), "true");
                long got = answer(room, call.group(2), call.group(3), names);
                names.put("" + call.group(1), (int) got);
                if (call.group(4) != null) {
                    Check.due(line, got, Long.parseLong(call.group(4)));
                    answered.add(call.group(2));
                }
            }
        }
        Check.dueText("calls whose answer the example tells", answered.toString(),
                "[aim, best, daylight, dim, height, kind, lamp, level, light, miss, own, place, point, run, scene, used]");
    }

    /** The text of the first block in this language. */
    private static String block(String readme, String language) {
        Matcher block = Pattern.compile("(?s)```" + language + "\n(.*?)```").matcher(readme);
        return block.find() ? block.group(1) : "no block";
    }

    private static long answer(LampChoice room, String name, String arguments, Map<String, Integer> names)
            throws ReflectiveOperationException {
        Object[] numbers = Stream.of(arguments.split(", *")).filter(text -> !text.isEmpty())
                .map(text -> names.containsKey(text) ? names.get(text) : Integer.valueOf(text)).toArray();
        Object got = methodNamed(name).invoke(room, numbers);
        return got == null ? 0 : ((Number) got).longValue();
    }

    private static Method methodNamed(String name) throws NoSuchMethodException {
        for (Method method : LampChoice.class.getMethods()) {
            if (method.getName().equals(name)) {
                return method;
            }
        }
        throw new NoSuchMethodException(name);
    }

    /** Each call of the face once, with as many arguments as it takes. */
    private static void tableOfCalls(String readme) {
        Set<String> face = new TreeSet<>();
        for (Method method : LampChoice.class.getMethods()) {
            if (method.getDeclaringClass() == LampChoice.class) {
                face.add(method.getName() + " " + method.getParameterCount());
            }
        }
        Set<String> told = new TreeSet<>();
        Matcher row = Pattern.compile("(?m)^\\| `(\\w+)\\((.*?)\\)` \\|").matcher(readme);
        while (row.find()) {
            long arguments = Stream.of(row.group(2).split(", *")).filter(text -> !text.isEmpty()).count();
            told.add(row.group(1) + " " + arguments);
        }
        Check.dueText("the table of calls", told.toString(), face.toString());
    }

    private static void tableOfTests(String readme) throws IOException {
        Set<String> told = new TreeSet<>();
        Matcher row = Pattern.compile("(?m)^\\| `(\\w+Test)` \\|").matcher(readme);
        while (row.find()) {
            told.add(row.group(1));
        }
        try (Stream<Path> files = Files.list(Path.of("src/test/java"))) {
            Set<String> there = files.map(file -> file.getFileName().toString())
                    .filter(name -> name.endsWith("Test.java"))
                    .map(name -> name.substring(0, name.length() - ".java".length()))
                    .collect(Collectors.toCollection(TreeSet::new));
            Check.dueText("the table of tests", told.toString(), there.toString());
        }
    }

    private static void commands(String readme) {
        Check.dueText(".ci/run is told", "" + readme.contains("```sh\n.ci/run\n```"), "true");
        Check.dueText(".ci/run can be run", "" + Files.isExecutable(Path.of(".ci/run")), "true");
        Check.dueText("the class is where it is told", "" + (readme.contains("`src/main/java/LampChoice.java`")
                && Files.exists(Path.of("src/main/java/LampChoice.java"))), "true");
    }

    private static void classesInside(String readme) {
        Set<String> told = new TreeSet<>();
        Matcher item = Pattern.compile("(?m)^- `(\\w+)` ").matcher(readme);
        while (item.find()) {
            told.add(item.group(1));
        }
        Set<String> there = Stream.of(LampChoice.class.getDeclaredClasses()).map(Class::getSimpleName)
                .collect(Collectors.toCollection(TreeSet::new));
        Check.dueText("the classes inside", told.toString(), there.toString());
    }
}
