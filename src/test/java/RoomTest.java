import com.sun.management.ThreadMXBean;
import java.lang.management.ManagementFactory;

/**
 * What runs of 512 calls make, by the machine's own count of bytes: far below the 7.3 million fields and elements of a
 * run's room, even if each were one byte.
 */
final class RoomTest {
    private static final Check check = new Check();
    private static final ThreadMXBean MACHINE = (ThreadMXBean) ManagementFactory.getThreadMXBean();
    private static final long MOST_BYTES = 2_500_000;

    private static final String TEXT = "shows [[[[1+[2*[3+[4-[5]]]]]]]]+day%7;shows turn%marks if not(day%4=0 and "
        + "not day%100=0 or day%400=0)and(hand=1 or offset>3);shows 7 if ((((((((day=3)))))))) or turn=offset";

    public static void main(String[] args) {
        made(WheelYear::new);
        long small = made(WheelYear::new);
        System.out.println("a new clock: " + small + " bytes");
        check.due("a new clock", small < 40_000);
        room("laws", RoomTest::laws);
        room("searches", RoomTest::searches);
        room("settings", RoomTest::settings);
        room("days", RoomTest::days);
        check.end("RoomTest");
    }

    private static void room(String name, Runnable run) {
        run.run();
        long bytes = made(run);
        System.out.println(name + ": " + bytes + " bytes");
        check.due(name + " takes little room", bytes < MOST_BYTES);
    }

    private static long made(Runnable run) {
        long thread = Thread.currentThread().getId();
        long before = MACHINE.getThreadAllocatedBytes(thread);
        run.run();
        return MACHINE.getThreadAllocatedBytes(thread) - before;
    }

    private static void laws() {
        WheelYear x = new WheelYear();
        x.image(0);
        for (int i = 0; i < 256; i++) {
            x.feed(0x73686f77, 0x7320312b, 0x312b312b, 0x312b312b, 0x312b3131);
            if (x.law() < 0) {
                x.back(0);
            }
        }
        check.due("laws", x.fault(), -1);
    }

    private static WheelYear fullClock() {
        WheelYear x = new WheelYear();
        for (int i = 0; i < 6; i++) {
            x.hand(395 + i);
            x.pair(i, 119, 113);
        }
        for (int i = 0; i < 12; i++) {
            x.wheel(109 + i);
        }
        for (int i = 0; i < 4; i++) {
            x.knob();
            x.push(i, 5, i + 1);
            x.push(i, 4, 9 - i);
        }
        x.sight(0, 0, 3);
        x.sight(0, 1, 3);
        Check.law(x, TEXT);
        x.force(0);
        return x;
    }

    private static void searches() {
        WheelYear x = fullClock();
        for (int i = 0; i < 120; i++) {
            x.nearest(99999 - i, 1000 + i, 4);
            x.near(99999 - i, 1000 + i, 1);
            x.inside(i % 6, 6);
            x.gone(i % 6, 0);
        }
    }

    private static void settings() {
        WheelYear x = fullClock();
        int found = 0;
        for (int i = 0; i < 400; i++) {
            found += x.set(i % 6, i % 390, (i + 1) % 6, (i * 7) % 390, i, 0) >= 0 ? 1 : 0;
        }
        check.due("some settings are found", found > 0);
    }

    private static void days() {
        WheelYear x = fullClock();
        for (int i = 0; i < 100; i++) {
            x.wrong(i % 6, 0, 5000, 1);
            x.together(i % 6, 399, (i + 1) % 6, 1, 0);
            x.cam(i % 6, 2000);
            x.storm(i, i, 100);
            x.image(i % 2);
        }
    }
}
