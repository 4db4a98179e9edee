import java.io.IOException;
import java.lang.reflect.Method;
import java.lang.reflect.Modifier;
import java.nio.file.Files;
import java.nio.file.Path;
import java.util.ArrayList;
import java.util.Arrays;
import java.util.List;
import java.util.Set;
import java.util.TreeSet;
import java.util.regex.Matcher;
import java.util.regex.Pattern;

/** README.md tells of each call what it really answers and throws; .ci/run starts the tests in the project's folder. */
final class ReadmeTest {
    private static final Pattern TYPED = Pattern.compile("for \\(char sign : \"(.*)\"\\.toCharArray\\(\\)\\) .*");
    private static final Pattern CALL = Pattern.compile("shop\\.(\\w+)\\((.*)\\); +// (.*)");
    private static final Pattern ROW = Pattern.compile("\\| `(\\w+)\\(([^)]*)\\)`.*\\|([^|]*)\\|");
    private static final Pattern THROWN =
        Pattern.compile("IndexOutOfBounds|IllegalArgument|IllegalState|NoSuchElement|UnsupportedOperation");

    private static List<String> lines() throws IOException {
        return Files.readAllLines(Path.of("README.md"));
    }

    static void rule_readmeRunAnswersAsItSays() throws IOException {
        Carcasswright shop = null;
        Set<String> called = new TreeSet<>();
        for (String line : lines()) {
            Matcher typed = TYPED.matcher(line);
            Matcher call = CALL.matcher(line);
            if (line.equals("Carcasswright shop = new Carcasswright();")) {
                shop = new Carcasswright();
            } else if (typed.matches()) {
                for (char sign : typed.group(1).toCharArray()) {
                    Calls.answer(shop, "type", sign);
                }
                called.add("type");
            } else if (call.matches()) {
                Object answer = Calls.answer(shop, call.group(1), arguments(call.group(2)));
                Check.same(line, call.group(3), told(answer));
                called.add(call.group(1));
            }
        }
        for (String name : new String[] {"addWall", "type", "addType", "place", "hole", "cut", "price", "job"}) {
            Check.same("the run has " + name, true, called.contains(name));
        }
    }

    private static Object[] arguments(String text) {
        List<Object> found = new ArrayList<>();
        for (String argument : text.isEmpty() ? new String[0] : text.split(", ")) {
            boolean isTruth = argument.equals("true") || argument.equals("false");
            if (argument.charAt(0) == '\'') {
                found.add(argument.charAt(1));
            } else if (isTruth) {
                found.add(Boolean.valueOf(argument));
            } else {
                found.add(Integer.valueOf(argument));
            }
        }
        return found.toArray();
    }

    private static String told(Object answer) {
        if (answer instanceof Character) {
            return "'" + answer + "'";
        }
        return Calls.isThrown(answer) ? "throws " + ((Class<?>) answer).getSimpleName() : answer.toString();
    }

    static void rule_readmeHasARowForEachCall() throws IOException {
        Set<String> due = new TreeSet<>();
        for (Method method : Carcasswright.class.getDeclaredMethods()) {
            if (Modifier.isPublic(method.getModifiers())) {
                List<String> thrown = new ArrayList<>();
                for (Class<?> type : method.getExceptionTypes()) {
                    thrown.add(type.getSimpleName().replace("Exception", ""));
                }
                due.add(row(method.getName(), method.getParameterCount(), thrown));
            }
        }
        Set<String> found = new TreeSet<>();
        int rows = 0;
        for (String line : lines()) {
            Matcher row = ROW.matcher(line);
            if (row.matches()) {
                String[] names = row.group(2).isEmpty() ? new String[0] : row.group(2).split(", ");
                found.add(row(row.group(1), names.length, thrown(row.group(3))));
                rows++;
            }
        }
        Check.same("rows", due, found);
        Check.same("one row for each call", due.size(), rows);
    }

    private static List<String> thrown(String cell) {
        List<String> found = new ArrayList<>();
        Matcher matcher = THROWN.matcher(cell);
        while (matcher.find()) {
            found.add(matcher.group());
        }
        return found;
    }

    private static String row(String name, int arguments, List<String> thrown) {
        return name + "/" + arguments + " " + thrown;
    }

    static void rule_readmeSaysHowTestsAreRun() throws IOException {
        String text = String.join("\n", lines());
        for (String part : Arrays.asList("### A new object", "### The order of calls", "## How to run its tests",
                "\n    .ci/run\n", "\n    java -cp /tmp/carcasswright Runner\n")) {
            Check.same(part, true, text.contains(part));
        }
    }

    private ReadmeTest() {
    }
}
