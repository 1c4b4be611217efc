import java.lang.reflect.Method;
import java.util.ArrayList;
import java.util.List;
import java.util.Random;

/** Random runs of calls, each answer compared with the slow clock's. */
final class RandomRunsTest {
    private static final Check check = new Check();
    private static final Random random = new Random(20261118);

    private static final int RUNS = 600;
    private static final int CALLS = 500;

    private static Method[] fast;
    private static Method[] slow;

    public static void main(String[] args) throws Exception {
        List<Method> methods = new ArrayList<>();
        for (Method m : WheelYear.class.getDeclaredMethods()) {
            if (java.lang.reflect.Modifier.isPublic(m.getModifiers())) {
                methods.add(m);
            }
        }
        methods.sort((a, b) -> a.getName().compareTo(b.getName()));
        check.due("public methods", methods.size(), 41);
        fast = methods.toArray(new Method[0]);
        slow = new Method[fast.length];
        for (int i = 0; i < fast.length; i++) {
            slow[i] = SlowClock.class.getDeclaredMethod(fast[i].getName(), fast[i].getParameterTypes());
        }
        for (int run = 0; run < RUNS; run++) {
            oneRun(run);
        }
        check.end("RandomRunsTest");
    }

    private static void oneRun(int run) throws Exception {
        WheelYear clock = new WheelYear();
        SlowClock model = new SlowClock();
        int widest = run % 20 == 0 ? 400 : run % 3 == 0 ? 40 : 12;
        for (int i = 0; i < CALLS; i++) {
            if (random.nextInt(12) == 0) {
                i += feedText(clock, model, RandomLaws.text(random));
            } else {
                Method m = fast[0];
                int which = 0;
                // calls that take long in the slow clock come less often
                do {
                    which = random.nextInt(fast.length);
                    m = fast[which];
                } while (isSlow(m.getName()) && random.nextInt(6) != 0);
                Object[] told = arguments(m, widest, run % 10 == 9 ? 3 : 60);
                ask(clock, model, which, told, run);
            }
        }
    }

    private static boolean isSlow(String name) {
        return name.equals("wrong") || name.equals("together") || name.equals("inside") || name.equals("nearest")
                || name.equals("near") || name.equals("mount") || name.equals("cam") || name.equals("back")
                || name.equals("strip") || name.equals("row") || name.equals("forget") || name.equals("gone");
    }

    private static void ask(WheelYear clock, SlowClock model, int which, Object[] told, int run) throws Exception {
        long got = ((Number) fast[which].invoke(clock, told)).longValue();
        long want = ((Number) slow[which].invoke(model, told)).longValue();
        check.due("run " + run + ": " + fast[which].getName() + java.util.Arrays.toString(told), got, want);
    }

    private static int feedText(WheelYear clock, SlowClock model, String text) {
        int calls = 0;
        for (int at = 0; at < text.length(); at += 20) {
            int[] n = new int[5];
            for (int j = 0; j < 5; j++) {
                n[j] = Check.four(text, at + 4 * j);
            }
            check.due("feed", clock.feed(n[0], n[1], n[2], n[3], n[4]), model.feed(n[0], n[1], n[2], n[3], n[4]));
            calls++;
        }
        int end = Math.min(text.length(), model.count(5));
        check.due("end", clock.end(end), model.end(end));
        check.due("law " + text, clock.law(), model.law());
        check.due("fault " + text, clock.fault(), model.fault());
        int law = random.nextInt(7) - 1;
        check.due("force", clock.force(law), model.force(law));
        return calls + 4;
    }

    /** One argument in so many as oddness tells is an odd number. */
    private static Object[] arguments(Method m, int widest, int oddness) {
        Object[] told = new Object[m.getParameterCount()];
        for (int i = 0; i < told.length; i++) {
            told[i] = random.nextInt(oddness) == 0 ? oddNumber() : argument(m.getName(), i, widest);
        }
        if (m.getName().equals("wrong") && random.nextInt(oddness) != 0) {
            told[2] = (int) told[1] + random.nextInt(80);
        }
        return told;
    }

    private static int oddNumber() {
        int[] odd = {Integer.MIN_VALUE, Integer.MAX_VALUE, -1, -2, 7, 13, 401, 10000, 1000000, 1000001, 100001, 5, 121};
        return odd[random.nextInt(odd.length)];
    }

    private static int day() {
        return random.nextInt(3) == 0 ? random.nextInt(1000001) : random.nextInt(30);
    }

    private static int argument(String name, int i, int widest) {
        boolean first = i == 0;
        switch (name) {
            case "hand":
                return 1 + random.nextInt(widest);
            case "put":
                return first ? hand() : i == 1 ? random.nextInt(2) : random.nextInt(random.nextInt(2) == 0 ? 8 : 450);
            case "pair":
                return first ? hand() : 6 + random.nextInt(random.nextInt(2) == 0 ? 6 : 115);
            case "of":
                return first ? hand() : random.nextInt(13);
            case "wheel":
                return 6 + random.nextInt(random.nextInt(2) == 0 ? 12 : 115);
            case "drop":
                return random.nextInt(20);
            case "teeth":
                return random.nextInt(12);
            case "terms":
                return first ? 0 : 1 + random.nextInt(random.nextInt(2) == 0 ? 50 : 1000000);
            case "feed":
                return random.nextInt(2) == 0 ? random.nextInt() : 0x20202020 + random.nextInt(0x40404040);
            case "end":
                return random.nextInt(60);
            case "force":
                return random.nextInt(4) - 1;
            case "count":
                return random.nextInt(13);
            case "storm":
                return first ? random.nextInt(1000001) : i == 1 ? day() : 1 + random.nextInt(100);
            case "image":
            case "back":
                return random.nextInt(2);
            default:
                return laterArgument(name, i, widest);
        }
    }

    private static int laterArgument(String name, int i, int widest) {
        boolean first = i == 0;
        switch (name) {
            case "shows":
            case "should":
            case "wrong":
                return first ? hand() : i == 1 ? day() : random.nextInt(name.equals("shows") ? 3 : 2);
            case "off":
                return first ? hand() : i == 3 ? random.nextInt(3) : rate();
            case "nearest":
                return i == 2 ? random.nextInt(5) : rate();
            case "near":
                return i == 2 ? random.nextInt(2) : rate();
            case "mount":
                return first ? hand() : rate();
            case "cam":
                return first ? hand() : 99 + random.nextInt(200);
            case "sight":
                return first ? hand() : i == 1 ? random.nextInt(20) : random.nextInt(Math.min(widest, 4));
            case "inside":
                return first ? hand() : random.nextInt(7);
            case "together":
                return i == 0 || i == 2 ? hand() : i == 4 ? day() : random.nextInt(4);
            case "set":
                return i == 0 || i == 2 ? hand() : i == 4 ? day() : i == 5 ? random.nextInt(5) : random.nextInt(widest);
            case "push":
                return first ? random.nextInt(4) : i == 1 ? hand() : random.nextInt(10);
            case "worn":
                return hand() - 1;
            default:
                return first ? hand() : random.nextInt(2);
        }
    }

    private static int hand() {
        return random.nextInt(random.nextInt(2) == 0 ? 2 : 6);
    }

    private static int rate() {
        return 1 + random.nextInt(random.nextInt(2) == 0 ? 20 : 100000);
    }
}
