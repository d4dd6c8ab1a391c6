import java.lang.reflect.InvocationTargetException;
import java.lang.reflect.Method;
import java.util.Arrays;
import java.util.Comparator;

/** What the tests share: telling a text, and counting answers that are not as due. */
final class Check {
    private int wrong = 0;
    private int calls = 0;
    /** The test that runs now, if they run by name. */
    private String running = "";

    void due(String what, long got, long due) {
        calls++;
        if (got != due) {
            wrong++;
            System.out.println(running + what + " answered " + got + ", due is " + due);
        }
    }

    void due(String what, boolean got, boolean due) {
        due(what, got ? 1 : 0, due ? 1 : 0);
    }

    void due(String what, String got, String due) {
        calls++;
        if (!got.equals(due)) {
            wrong++;
            System.out.println(running + what + " answered\n  " + got + ", due is\n  " + due);
        }
    }

    /** Ends the test: with exit code 1 if an answer was wrong. */
    void finish(String name) {
        System.out.println(name + ": " + (calls - wrong) + " of " + calls + " answers are as due");
        if (wrong != 0) {
            System.exit(1);
        }
    }

    /** Runs each test of a class, which are its package-visible methods without arguments; one that asks nothing is wrong. */
    void runAll(Class<?> tests) {
        Method[] methods = tests.getDeclaredMethods();
        Arrays.sort(methods, Comparator.comparing(Method::getName));
        int count = 0;
        for (Method m : methods) {
            if (m.getModifiers() == java.lang.reflect.Modifier.STATIC && m.getParameterCount() == 0) {
                running = m.getName() + ": ";
                int before = calls;
                invoke(m, null);
                due("asks something", calls > before, true);
                count++;
            }
        }
        running = "";
        finish(tests.getSimpleName() + ", " + count + " tests");
    }

    private static Object invoke(Method m, Object on, Object... args) {
        try {
            return m.invoke(on, args);
        } catch (IllegalAccessException | InvocationTargetException e) {
            throw new IllegalStateException(m.getName() + Arrays.toString(args), e);
        }
    }

    /** A call by its name; a boolean counts 1 or 0. */
    static int call(WhiteRoads roads, String name, int... args) {
        Class<?>[] types = new Class<?>[args.length];
        Arrays.fill(types, int.class);
        try {
            Method m = WhiteRoads.class.getMethod(name, types);
            Object answer = invoke(m, roads, Arrays.stream(args).boxed().toArray());
            return answer instanceof Integer i ? i : (Boolean) answer ? 1 : 0;
        } catch (NoSuchMethodException e) {
            throw new IllegalStateException(name, e);
        }
    }

    /** A text as numbers for feed, five a call; bytes of 0 fill the last call. */
    static int[] numbers(String text) {
        int[] n = new int[(text.length() + 19) / 20 * 5];
        for (int i = 0; i < text.length(); i++) {
            n[i / 4] |= (text.charAt(i) & 255) << 24 - i % 4 * 8;
        }
        return n;
    }

    /** Puts a text on the TAPE, which must be empty. */
    static void put(WhiteRoads roads, String text) {
        int[] n = numbers(text);
        for (int i = 0; i < n.length; i += 5) {
            roads.feed(n[i], n[i + 1], n[i + 2], n[i + 3], n[i + 4]);
        }
        roads.end(text.length());
    }

    static int tell(WhiteRoads roads, String text) {
        put(roads, text);
        return roads.land();
    }

    static WhiteRoads told(String text) {
        WhiteRoads roads = new WhiteRoads();
        if (tell(roads, text) == WhiteRoads.NONE) {
            throw new IllegalStateException("FAULT " + roads.fault(0) + " at " + roads.fault(1) + " of " + text);
        }
        return roads;
    }
}
