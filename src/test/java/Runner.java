import java.io.FileWriter;
import java.io.IOException;
import java.lang.reflect.InvocationTargetException;
import java.lang.reflect.Method;
import java.lang.reflect.Modifier;
import java.util.ArrayList;
import java.util.Arrays;
import java.util.Comparator;
import java.util.List;

/**
 * Runs every static method of the test classes whose name begins with "promise" or "rule", and fails if one of
 * the promises 1 to 52 has no test. The counts go to the file that is named.
 */
final class Runner {
    private static final Class<?>[] TESTS = {
        RoomTest.class, TextTest.class, LayoutTest.class, PartsTest.class, SawTest.class, MoneyTest.class,
        JobsTest.class, FiguresTest.class, FaceTest.class, RulesTest.class,
        RangesTest.class, EmptyTest.class, FullTest.class, PrecedenceTest.class, RoomEdgesTest.class,
        TextEdgesTest.class, LayoutEdgesTest.class, PartsEdgesTest.class, SawEdgesTest.class, MoneyEdgesTest.class,
        JobsEdgesTest.class,
        RandomRunsTest.class, ReadmeTest.class,
    };

    public static void main(String[] args) throws IOException, ReflectiveOperationException {
        int passed = 0;
        List<String> failed = new ArrayList<>();
        boolean[] isTested = new boolean[53];
        for (Class<?> test : TESTS) {
            for (Method method : testsOf(test)) {
                if (method.getName().startsWith("promise")) {
                    isTested[Integer.parseInt(method.getName().substring(7, 9))] = true;
                }
                if (runs(method)) {
                    passed++;
                } else {
                    failed.add(test.getName() + "." + method.getName());
                }
            }
        }
        for (int i = 1; i <= 52; i++) {
            if (!isTested[i]) {
                failed.add("promise " + i + " has no test");
            }
        }
        failed.forEach(name -> System.out.println("FAIL " + name));
        System.out.println("project tests: " + passed + " right, " + failed.size() + " wrong");
        if (args.length > 0) {
            try (FileWriter counts = new FileWriter(args[0])) {
                counts.write(passed + " " + failed.size() + "\n");
            }
        }
        System.exit(failed.isEmpty() ? 0 : 1);
    }

    private static List<Method> testsOf(Class<?> test) {
        List<Method> found = new ArrayList<>();
        for (Method method : test.getDeclaredMethods()) {
            boolean isTest = method.getName().startsWith("promise") || method.getName().startsWith("rule");
            if (isTest && Modifier.isStatic(method.getModifiers()) && method.getParameterCount() == 0) {
                found.add(method);
            }
        }
        found.sort(Comparator.comparing(Method::getName));
        return found;
    }

    private static boolean runs(Method method) throws ReflectiveOperationException {
        Check.wrong = 0;
        try {
            method.setAccessible(true);
            method.invoke(null);
        } catch (InvocationTargetException e) {
            Check.tell(e.getCause() + " at " + Arrays.toString(e.getCause().getStackTrace()));
        }
        return Check.wrong == 0;
    }

    private Runner() {
    }
}
