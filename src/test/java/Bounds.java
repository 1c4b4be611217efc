import java.lang.reflect.InvocationTargetException;
import java.lang.reflect.Method;
import java.util.Arrays;
import java.util.Comparator;

/** What the tests of bounds have in common: a test is a method promiseNN_whatTheSentenceSays, and an answer bears its name. */
final class Bounds {
    static final int NONE = WheelYear.NONE;
    static final int NOTHING = -2000000000;
    static final int LAST = 1000000;
    static final int LEAST = Integer.MIN_VALUE;
    static final int MOST = Integer.MAX_VALUE;

    private static final Check check = new Check();
    private static String running = "";

    static void due(String call, long got, long want) {
        check.due(running + ": " + call, got, want);
    }

    static void due(String call, boolean got) {
        check.due(running + ": " + call, got);
    }

    static void end(String name) {
        check.end(name);
    }

    /** Runs each test of a class in the order of their names, and marks its promise as looked at. */
    static void runAll(Class<?> tests, int[] howMany) {
        Method[] methods = tests.getDeclaredMethods();
        Arrays.sort(methods, Comparator.comparing(Method::getName));
        for (Method m : methods) {
            if (m.getName().matches("promise[0-9][0-9]_.*")) {
                howMany[Integer.parseInt(m.getName().substring(7, 9))]++;
                runOne(tests.getSimpleName() + "." + m.getName(), m);
            }
        }
    }

    private static void runOne(String name, Method test) {
        running = name;
        try {
            test.invoke(null);
        } catch (InvocationTargetException | IllegalAccessException e) {
            due("ended by " + (e.getCause() == null ? e : e.getCause()), 1, 0);
        }
    }

    /** A clock with so many hands of so many marks each. */
    static WheelYear hands(int howMany, int marks) {
        WheelYear x = new WheelYear();
        for (int i = 0; i < howMany; i++) {
            x.hand(marks);
        }
        return x;
    }

    /** A clock whose one hand of 400 marks shows on each day the day itself, modulo 400. */
    static WheelYear dayHand() {
        WheelYear x = hands(1, 400);
        x.pair(0, 6, 120);
        x.pair(0, 6, 120);
        return x;
    }

    static void stock(WheelYear x, int... teeth) {
        for (int t : teeth) {
            x.wheel(t);
        }
    }

    /** Puts a text that is a law in force on a clock that has room for it. */
    static void inForce(WheelYear x, String text) {
        int law = Check.law(x, text);
        due("law of " + text, law >= 0);
        x.force(law);
    }
}
