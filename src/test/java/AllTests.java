import java.lang.reflect.InvocationTargetException;
import java.lang.reflect.Method;
import java.lang.reflect.Modifier;
import java.util.Arrays;
import java.util.Comparator;
import java.util.TreeSet;

/** Runs every test method (promiseNN_.., terms_.., ruleNN_.. or readme_..) of the test classes and counts them. */
public final class AllTests {
    private static final Class<?>[] CLASSES = {
        TextTest.class, NumbersTest.class, ActionsTest.class, MinutesTest.class, ForecastTest.class,
        ScriptsTest.class, SlotsTest.class, GutterEdgesTest.class, MinuteEdgesTest.class, HeatEdgesTest.class,
        TextEdgesTest.class, QuestionEdgesTest.class, ActionEdgesTest.class, ForecastEdgesTest.class,
        ScriptEdgesTest.class, SlotEdgesTest.class, FaceTest.class, SourceTest.class, ReadmeTest.class,
        WildCallsTest.class, ModelTest.class,
    };

    /** The path of the class's source, for the tests that read it. */
    static String source = "src/main/java/GutterBoats.java";

    public static void main(String[] args) {
        if (args.length > 0) {
            source = args[0];
        }
        int passed = 0;
        int failed = 0;
        TreeSet<String> promises = new TreeSet<>();
        for (Class<?> type : CLASSES) {
            Method[] methods = type.getDeclaredMethods();
            Arrays.sort(methods, Comparator.comparing(Method::getName));
            for (Method method : methods) {
                String name = method.getName();
                boolean isTest = Modifier.isStatic(method.getModifiers())
                        && name.matches("(promise|terms_|rule|readme_).*");
                if (!isTest) {
                    continue;
                }
                if (name.startsWith("promise")) {
                    promises.add(name.substring(7, 9));
                }
                if (passes(type, method)) {
                    passed++;
                } else {
                    failed++;
                }
            }
        }
        for (int promise = 1; promise <= 27; promise++) {
            if (!promises.contains(String.format("%02d", promise))) {
                System.out.println("no test for the promise " + promise);
                failed++;
            }
        }
        System.out.println("project: " + passed + " passed, " + failed + " failed");
        System.exit(failed == 0 && passed > 0 ? 0 : 1);
    }

    private static boolean passes(Class<?> type, Method method) {
        try {
            method.invoke(null);
            return true;
        } catch (InvocationTargetException e) {
            System.out.println(type.getName() + "." + method.getName() + ": " + e.getCause());
            if (!(e.getCause() instanceof Check.Wrong)) {
                e.getCause().printStackTrace(System.out);
            }
            return false;
        } catch (IllegalAccessException e) {
            System.out.println(type.getName() + "." + method.getName() + " cannot be called");
            return false;
        }
    }
}
