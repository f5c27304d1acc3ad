import java.io.IOException;
import java.lang.reflect.Method;
import java.lang.reflect.Modifier;
import java.nio.file.Files;
import java.nio.file.Path;
import java.util.ArrayList;
import java.util.List;
import java.util.Set;
import java.util.TreeSet;
import java.util.regex.Matcher;
import java.util.regex.Pattern;
import java.util.stream.Stream;

/** What README.md says is so: the calls that it shows are made, what it names is looked up. */
public final class ReadmeTest {
    private static final Checks CHECKS = new Checks();
    private static final Path TESTS = Path.of("src/test/java");
    private static final Pattern SHOWN_CALL =
        Pattern.compile("house\\.(\\w+)\\(([-\\d, ]*)\\); +// (-?\\d+|true|false): (.+)");
    private static final Pattern FAULT_ROW = Pattern.compile("(?m)^\\| (\\d) \\| .* \\| `(.*)` \\|$");
    private static final Pattern CALL_ROW = Pattern.compile("(?m)^\\| `(\\w+)\\((.*?)\\)` \\| .+ \\| .+ \\|$");
    private static final Pattern TEST_NAME = Pattern.compile("`(\\w+Test)`");

    public static void main(String[] args) throws Exception {
        String readme = Files.readString(Path.of("README.md"));
        writerIsTheTests(readme);
        shownCalls(readme);
        everyCallHasARow(readme);
        everyFaultHasARow(readme);
        classes(readme);
        tests(readme);
        CHECKS.finish();
    }

    /** The texts of all blocks in the given language. */
    private static List<String> blocks(String readme, String language) {
        List<String> found = new ArrayList<>();
        Matcher block = Pattern.compile("(?s)```" + language + "\n(.*?)```").matcher(readme);
        while (block.find()) {
            found.add(block.group(1));
        }
        return found;
    }

    private static String oneLine(String text) {
        return text.strip().replaceAll("\\s+", " ");
    }

    /** All tests of the project write their texts with the method that is shown. */
    private static void writerIsTheTests(String readme) throws IOException {
        String shared = oneLine(Files.readString(TESTS.resolve("Checks.java")));
        CHECKS.isTrue("the write of README.md stands in Checks.java", shared.contains(oneLine(blocks(readme, "java").get(0))));
    }

    private static void shownCalls(String readme) throws ReflectiveOperationException {
        String program = oneLine(blocks(readme, "text").get(0));
        List<String> blocks = blocks(readme, "java");
        CHECKS.same("blocks of java", blocks.size(), 3);
        Set<String> shown = new TreeSet<>();
        for (String block : blocks.subList(1, blocks.size())) {
            ActorHouse house = null;
            for (String line : block.split("\n")) {
                if (line.equals("ActorHouse house = new ActorHouse();")) {
                    house = new ActorHouse();
                } else if (line.equals("write(house, PROGRAM);")) {
                    Checks.write(house, program);
                } else {
                    shown.add(shownCall(house, line));
                }
            }
        }
        CHECKS.same("the calls that are shown", shown.toString(), faceNames().toString());
    }

    /** Makes the call of a line, and compares the answer with the one that its comment begins with. */
    private static String shownCall(ActorHouse house, String line) throws ReflectiveOperationException {
        Matcher call = SHOWN_CALL.matcher(line);
        if (!call.matches()) {
            CHECKS.same("a line of README.md", line, "a call with its answer");
            return "";
        }
        String name = call.group(1);
        Object answer = face(name).invoke(house, arguments(call.group(2)));
        CHECKS.same(line + " it answered", answer.toString(), call.group(3));
        boolean writes = name.equals("show") || name.equals("peek");
        if (writes && !answer.equals(ActorHouse.NONE)) {
            CHECKS.same(line + " the output", Checks.output(house), call.group(4));
        }
        return name;
    }

    private static Object[] arguments(String list) {
        return list.isEmpty() ? new Object[0] : Stream.of(list.split(", ")).map(Integer::valueOf).toArray();
    }

    private static Method face(String name) throws NoSuchMethodException {
        for (Method method : ActorHouse.class.getDeclaredMethods()) {
            if (Modifier.isPublic(method.getModifiers()) && method.getName().equals(name)) {
                return method;
            }
        }
        throw new NoSuchMethodException(name);
    }

    private static Set<String> faceNames() {
        Set<String> names = new TreeSet<>();
        for (Method method : ActorHouse.class.getDeclaredMethods()) {
            if (Modifier.isPublic(method.getModifiers())) {
                names.add(method.getName());
            }
        }
        return names;
    }

    private static void everyCallHasARow(String readme) throws NoSuchMethodException {
        Set<String> rows = new TreeSet<>();
        Matcher row = CALL_ROW.matcher(readme);
        while (row.find()) {
            int count = row.group(2).isEmpty() ? 0 : row.group(2).split(", ").length;
            CHECKS.same("parameters of " + row.group(1), count, face(row.group(1)).getParameterCount());
            rows.add(row.group(1));
        }
        CHECKS.same("the calls with a row", rows.toString(), faceNames().toString());
    }

    private static void everyFaultHasARow(String readme) {
        int due = 1;
        Matcher row = FAULT_ROW.matcher(readme);
        while (row.find()) {
            CHECKS.same("the next fault's row", Integer.parseInt(row.group(1)), due);
            CHECKS.bad(due, row.group(2));
            due++;
        }
        CHECKS.same("rows of faults", due - 1, 8);
    }

    private static void classes(String readme) {
        String rows = readme.substring(readme.indexOf("| Class | Work |"), readme.indexOf("## How to run the tests"));
        Set<String> named = new TreeSet<>();
        Matcher name = Pattern.compile("`([A-Z]\\w+)`").matcher(rows);
        while (name.find()) {
            named.add(name.group(1));
        }
        Set<String> there = new TreeSet<>();
        for (Class<?> inner : ActorHouse.class.getDeclaredClasses()) {
            there.add(inner.getSimpleName());
        }
        CHECKS.same("the classes with a row", named.toString(), there.toString());
    }

    private static void tests(String readme) throws IOException {
        Set<String> named = new TreeSet<>();
        Matcher name = TEST_NAME.matcher(readme);
        while (name.find()) {
            named.add(name.group(1));
        }
        Set<String> there = new TreeSet<>();
        try (Stream<Path> files = Files.list(TESTS)) {
            files.map(file -> file.getFileName().toString())
                .filter(file -> file.endsWith("Test.java"))
                .forEach(file -> there.add(file.replace(".java", "")));
        }
        CHECKS.same("the tests with a row", named.toString(), there.toString());
    }
}
