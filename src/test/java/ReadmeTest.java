import java.io.IOException;
import java.lang.reflect.InvocationTargetException;
import java.lang.reflect.Method;
import java.lang.reflect.Modifier;
import java.nio.file.Files;
import java.nio.file.Path;
import java.util.ArrayList;
import java.util.List;
import java.util.TreeSet;
import java.util.regex.Matcher;
import java.util.regex.Pattern;

/** Every call that README.md shows answers what stands behind it, every call of the face is shown, every test named. */
public final class ReadmeTest {
    private static final Pattern BLOCK = Pattern.compile("```(\\w+)\\n(.*?)```", Pattern.DOTALL);
    /** A call, its arguments, its answer; words about it may follow behind a colon. */
    private static final Pattern CALL = Pattern.compile("hall\\.(\\w+)\\((.*?)\\); +// ([^:]+)(: .*)?");
    private static final Pattern PROMISES = Pattern.compile("(\\d+)( to (\\d+))?");

    private final TreeSet<String> shown = new TreeSet<>();
    private String house = "";
    private KnobHall hall = new KnobHall();

    private static String read(String path) throws IOException {
        return Files.readString(Path.of(path));
    }

    private static String plain(String text) {
        return text.replaceAll("\\s+", " ").trim();
    }

    private static Object argument(String text) {
        if (text.equals("true") || text.equals("false")) {
            return text.equals("true");
        }
        return Integer.decode(text);
    }

    private static Object[] arguments(String text) {
        List<Object> arguments = new ArrayList<>();
        for (String one : text.split(", *")) {
            if (!one.isEmpty()) {
                arguments.add(argument(one));
            }
        }
        return arguments.toArray();
    }

    private static String written(Object answer) {
        if (answer.equals(Integer.MIN_VALUE)) {
            return "Integer.MIN_VALUE";
        }
        return answer.equals(Long.MIN_VALUE) ? "Long.MIN_VALUE" : answer.toString();
    }

    private static List<Method> face() {
        List<Method> face = new ArrayList<>();
        for (Method method : KnobHall.class.getDeclaredMethods()) {
            if (Modifier.isPublic(method.getModifiers())) {
                face.add(method);
            }
        }
        return face;
    }

    private String answer(String name, Object[] arguments) throws IllegalAccessException {
        for (Method method : face()) {
            if (method.getName().equals(name) && method.getParameterCount() == arguments.length) {
                try {
                    return written(method.invoke(hall, arguments));
                } catch (InvocationTargetException e) {
                    return "throws " + e.getCause().getClass().getSimpleName();
                }
            }
        }
        return "no such call";
    }

    private void look(String line) throws IllegalAccessException {
        Matcher call = CALL.matcher(line);
        if (line.equals("KnobHall hall = new KnobHall();")) {
            hall = new KnobHall();
        } else if (line.equals("KnobHall hall = Hall.of(HOUSE);")) {
            hall = Hall.of(house);
        } else if (call.matches()) {
            shown.add(call.group(1));
            String got = answer(call.group(1), arguments(call.group(2)));
            Hall.due(line + " answered " + got + ", which", got.equals(call.group(3)), true);
        } else {
            Hall.due("understood: " + line + ", which", line.isEmpty(), true);
        }
    }

    private void lookAtBlock(String kind, String block) throws IOException, IllegalAccessException {
        if (kind.equals("text")) {
            // Words about a line stand behind its last ';'.
            house = block.replaceAll("(?m);[^;]*$", ";\n");
        } else if (!kind.equals("java")) {
            return;
        } else if (block.startsWith("static")) {
            Hall.due("in Hall.java, which", plain(read("src/test/java/Hall.java")).contains(plain(block)), true);
        } else {
            for (String line : block.split("\n")) {
                look(line.trim());
            }
        }
    }

    private void lookAtBlocks(String readme) throws IOException, IllegalAccessException {
        Matcher block = BLOCK.matcher(readme);
        while (block.find()) {
            lookAtBlock(block.group(1), block.group(2));
        }
        for (Method method : face()) {
            Hall.due(method.getName() + " is shown, which", shown.contains(method.getName()), true);
        }
    }

    /** The table has every test, and by hand every promise is held by one of a few. */
    private static void lookAtTable(String readme) throws IOException {
        TreeSet<String> tests = new TreeSet<>();
        try (var files = Files.list(Path.of("src/test/java"))) {
            files.map(file -> file.getFileName().toString()).filter(name -> name.endsWith("Test.java"))
                .forEach(name -> tests.add(name.replace(".java", "")));
        }
        TreeSet<String> named = new TreeSet<>();
        TreeSet<Integer> promises = new TreeSet<>();
        Matcher row = Pattern.compile("(?m)^\\| (\\w+Test) \\| (.*) \\|$").matcher(readme);
        while (row.find()) {
            named.add(row.group(1));
            Matcher some = PROMISES.matcher(row.group(2));
            while (some.find()) {
                int first = Integer.parseInt(some.group(1));
                int last = some.group(3) == null ? first : Integer.parseInt(some.group(3));
                for (int promise = first; promise <= last; promise++) {
                    promises.add(promise);
                }
            }
        }
        Hall.due("the tests " + tests + " are named, which", named.equals(tests), true);
        Hall.due("promises that a test is named for", promises.size(), 44);
        Hall.due("the last one", promises.last(), 44);
    }

    public static void main(String[] args) throws Exception {
        String readme = read("README.md");
        new ReadmeTest().lookAtBlocks(readme);
        lookAtTable(readme);
        Hall.due(".ci/run can be run, which", Files.isExecutable(Path.of(".ci/run")), true);
        Hall.end();
    }
}
