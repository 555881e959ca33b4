import java.lang.reflect.Method;
import java.util.Random;

/** Calls with any arguments: no other exception than a declared one, of its very class, and no room used up. */
final class WildCallsTest {
    private static final int[] WILD = {Integer.MIN_VALUE, Integer.MIN_VALUE + 1, -100, -2, -1, 0, 1, 2, 3, 4, 5, 6, 7, 9,
        10, 11, 13, 14, 39, 40, 41, 59, 60, 61, 119, 120, 255, 256, 1 << 16, 1 << 30, Integer.MAX_VALUE - 1, Integer.MAX_VALUE};

    private WildCallsTest() {
    }

    static void rule07_onlyDeclaredExceptions() throws IllegalAccessException {
        Random random = new Random(7);
        Method[] methods = GutterBoats.class.getMethods();
        for (int run = 0; run < 400; run++) {
            GutterBoats x = Check.withText(ModelTest.text(random));
            if (x.errorPosition() == GutterBoats.NONE) {
                x.load();
            }
            for (int call = 0; call < 300; call++) {
                Method method = methods[random.nextInt(methods.length)];
                if (method.getDeclaringClass() == GutterBoats.class) {
                    wild(x, method, random);
                }
            }
        }
    }

    private static void wild(GutterBoats x, Method method, Random random) throws IllegalAccessException {
        Object[] arguments = new Object[method.getParameterCount()];
        for (int i = 0; i < arguments.length; i++) {
            int value = random.nextBoolean() ? WILD[random.nextInt(WILD.length)] : random.nextInt(6);
            boolean isLong = method.getParameterTypes()[i] == long.class;
            arguments[i] = isLong ? (Object) Long.valueOf(random.nextBoolean() ? value : random.nextLong()) : (Object) value;
        }
        try {
            method.invoke(x, arguments);
        } catch (java.lang.reflect.InvocationTargetException e) {
            for (Class<?> declared : method.getExceptionTypes()) {
                if (e.getCause().getClass() == declared) {
                    return;
                }
            }
            throw new Check.Wrong(method.getName() + java.util.Arrays.toString(arguments) + " threw " + e.getCause());
        }
    }

    static void rule12_theDearestCallsMakeNoObjects() {
        com.sun.management.ThreadMXBean bean =
                (com.sun.management.ThreadMXBean) java.lang.management.ManagementFactory.getThreadMXBean();
        GutterBoats x = Check.loaded("Tg401000g102003b200b311b122b133b230l01l11l20m03h0006h1003");
        long thread = Thread.currentThread().getId();
        x.winner();
        long before = bean.getThreadAllocatedBytes(thread);
        for (int i = 0; i < 50; i++) {
            x.winner();
            x.leastFolds(1, 3);
            x.endsIn(0, 0);
            x.simulate(i, 60);
            x.runScript(3, 100002000282003L);
            x.minutes(1);
            x.undo();
            x.save(0);
        }
        long bytes = bean.getThreadAllocatedBytes(thread) - before;
        if (bytes > 50000) {
            throw new Check.Wrong("400 calls took " + bytes + " bytes");
        }
    }
}
