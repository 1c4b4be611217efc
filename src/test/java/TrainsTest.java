/** Promises 22 to 25 and 27 to 36: rates told, stock trains, sights, two hands, knobs, wear, sharing. */
final class TrainsTest {
    private static final Check check = new Check();

    public static void main(String[] args) {
        offs();
        nearests();
        mounts();
        sights();
        insides();
        gones();
        togethers();
        knobs();
        sets();
        worns();
        shareds();
        check.end("TrainsTest");
    }

    private static void offs() {
        WheelYear x = new WheelYear();
        x.hand(12);
        x.pair(0, 6, 12);
        check.due("off upper", x.off(0, 1, 3, 0), 1);
        check.due("off lower", x.off(0, 1, 3, 1), 6);
        check.due("off less", x.off(0, 2, 3, 0), 1);
        check.due("off day", x.off(0, 2, 3, 2), 6);
        check.due("exact", x.off(0, 50000, 100000, 0), 0);
        check.due("exact", x.off(0, 50000, 100000, 1), 1);
        check.due("exact", x.off(0, 50000, 100000, 2), -1);
        check.due("cut up", x.off(0, 11, 13, 2), 3);
        check.due("p", x.off(0, 0, 1, 0), -1);
        check.due("p", x.off(0, 100001, 1, 0), -1);
        check.due("q", x.off(0, 1, 0, 0), -1);
        check.due("q", x.off(0, 1, 100001, 0), -1);
        check.due("what", x.off(0, 1, 1, 3), -1);
        check.due("what", x.off(0, 1, 1, -1), -1);
        check.due("no hand", x.off(1, 1, 1, 0), -1);
        check.due("a turn on day 1", x.off(0, 100000, 1, 2), 1);
        // 1/2 less 99999/200000 would be 1/200000: 49999/99999 is as near as Q allows, 1/199998
        check.due("day", x.off(0, 49999, 99999, 2), 199998);
        for (int i = 0; i < 3; i++) {
            x.pair(0, 120, 119);
        }
        // 60 times 120 times 120 through 119 to the third
        check.due("wide", x.off(0, 100000, 1, 0), 100000L * 119 * 119 * 119 - 60L * 120 * 120);
        WheelYear y = new WheelYear();
        y.hand(1);
        y.pair(0, 119, 120);
        y.pair(0, 101, 100);
        y.put(0, 1, 2);
        // 12019/12000 a day, told 1/1: 19/12000
        check.due("gap aside", y.off(0, 1, 1, 2), 632);
        y.strip(0);
        y.pair(0, 7, 64);
        // 7/64 less 1709/15625 is 1/1,000,000
        check.due("on the last day", y.off(0, 1709, 15625, 2), 1000000);
        check.due("on the last day", y.off(0, 1709, 15625, 1), 1000000);
        y.strip(0);
        y.pair(0, 119, 120);
        check.due("never by the last day", y.off(0, 99128, 99961, 1), 11995320);
        check.due("never by the last day", y.off(0, 99128, 99961, 2), -1);
    }

    private static void nearests() {
        WheelYear x = new WheelYear();
        check.due("no stock", x.nearest(1, 1, 0), -1);
        x.wheel(10);
        check.due("one wheel", x.nearest(1, 1, 0), -1);
        check.due("one wheel", x.near(1, 1, 0), -1);
        x.wheel(10);
        check.due("two wheels", x.nearest(1, 1, 0), 1);
        check.due("first row", x.nearest(1, 1, 1), 0);
        check.due("first row", x.nearest(1, 1, 2), 1);
        check.due("no second", x.nearest(1, 1, 3), -1);
        check.due("no second", x.nearest(1, 1, 4), -1);
        x.wheel(10);
        x.wheel(10);
        check.due("fewer pairs", x.nearest(1, 1, 0), 1);
        check.due("what", x.nearest(1, 1, 5), -1);
        check.due("what", x.nearest(1, 1, -1), -1);
        check.due("p", x.nearest(0, 1, 0), -1);
        check.due("q", x.nearest(1, 100001, 0), -1);
        check.due("near", x.near(3, 7, 0), 4);
        check.due("near", x.near(3, 7, 1), 7);
        check.due("near what", x.near(3, 7, 2), -1);
        check.due("near p", x.near(100001, 7, 0), -1);
        WheelYear y = new WheelYear();
        // 20/10 and 10/20 are as far from 5/4: the first row
        y.wheel(10);
        y.wheel(20);
        check.due("alike", y.nearest(5, 4, 1), 0);
        check.due("alike", y.near(5, 4, 0), 3);
        check.due("alike", y.near(5, 4, 1), 4);
        y.wheel(7);
        y.wheel(7);
        check.due("two pairs only if nearer", y.nearest(2, 1, 0), 1);
        y.drop(0);
        y.wheel(10);
        // stock 20 7 7 10: of two pairs 20/7 times 7/10 is 2 too, but one pair is enough
        check.due("one pair", y.nearest(2, 1, 2), 3);
        check.due("second pair", y.nearest(200, 49, 0), 2);
        check.due("row", y.nearest(200, 49, 1), 0);
        check.due("row", y.nearest(200, 49, 2), 1);
        check.due("row", y.nearest(200, 49, 3), 3);
        check.due("row", y.nearest(200, 49, 4), 2);
    }

    private static void mounts() {
        WheelYear x = new WheelYear();
        check.due("p", x.mount(0, 0, 1), -1);
        check.due("q", x.mount(0, 1, 100001), -1);
        check.due("no hand", x.mount(0, 1, 1), -2);
        x.hand(5);
        check.due("no wheels", x.mount(0, 1, 1), -2);
        check.due("status", x.status(), -2);
        x.pair(0, 6, 6);
        x.pair(0, 7, 7);
        x.pair(0, 8, 8);
        x.wheel(12);
        check.due("one wheel", x.mount(0, 1, 1), -2);
        check.due("train stays", x.of(0, 3), 3);
        x.wheel(24);
        check.due("mount", x.mount(0, 1, 2), 1);
        check.due("status", x.status(), 0);
        check.due("of", x.of(0, 4), 12);
        check.due("of", x.of(0, 5), 24);
        check.due("of", x.of(0, 6), -1);
        check.due("rate", x.rate(0, 1), 2);
        check.due("stock stays", x.count(1), 2);
        check.due("no hand", x.mount(1, 1, 2), -2);
    }

    private static void sights() {
        WheelYear x = new WheelYear();
        x.hand(5);
        check.due("day", x.sight(0, -1, 0), -1);
        check.due("day", x.sight(0, 1000001, 0), -1);
        check.due("mark", x.sight(0, 0, -1), -1);
        check.due("mark, no hand", x.sight(1, 0, -1), -1);
        check.due("large mark, no hand", x.sight(1, 0, 500), -2);
        check.due("large mark", x.sight(0, 0, 5), -1);
        for (int i = 1; i <= 10; i++) {
            check.due("sight", x.sight(0, 1000000, 4), i);
        }
        check.due("no room", x.sight(0, 0, 0), -5);
        check.due("large mark", x.sight(0, 0, 5), -1);
        check.due("count", x.count(3), 10);
        check.due("forget", x.forget(), 10);
        check.due("forget", x.forget(), 0);
        check.due("sight", x.sight(0, 0, 0), 1);
    }

    private static void insides() {
        WheelYear x = new WheelYear();
        x.hand(4);
        x.hand(400);
        check.due("no stock", x.inside(0, 0), 0);
        check.due("no stock", x.inside(0, 1), -1);
        x.wheel(10);
        check.due("one wheel", x.inside(0, 0), 0);
        x.wheel(20);
        check.due("no sights", x.inside(0, 0), 8);
        check.due("pairs", x.inside(0, 1), 1);
        check.due("offset", x.inside(0, 2), 0);
        check.due("driver", x.inside(0, 3), 0);
        check.due("driven", x.inside(0, 4), 1);
        check.due("no second", x.inside(0, 5), -1);
        check.due("no second", x.inside(0, 6), -1);
        check.due("what", x.inside(0, 7), -1);
        check.due("what", x.inside(0, -1), -1);
        check.due("no hand", x.inside(2, 0), -1);
        for (int i = 2; i < 12; i++) {
            x.wheel(6 + i);
        }
        check.due("no sights, all stock", x.inside(1, 0), (132 + 11880) * 400);
        WheelYear y = new WheelYear();
        y.hand(8);
        y.hand(8);
        y.put(0, 1, 2);
        y.put(0, 0, 7);
        y.wheel(10);
        y.wheel(20);
        y.wheel(40);
        y.sight(1, 0, 0);
        y.sight(0, 1, 6);
        // 1/2: 4 on, offset 2; 1/4: 2 on, offset 4; 2, 4: offset 6
        check.due("inside", y.inside(0, 0), 6);
        check.due("least offset", y.inside(0, 2), 2);
        check.due("driver", y.inside(0, 3), 0);
        check.due("driven", y.inside(0, 4), 1);
        y.sight(0, 2, 0);
        check.due("quarters", y.inside(0, 0), 1);
        check.due("offset", y.inside(0, 2), 4);
        check.due("driven", y.inside(0, 4), 2);
        y.sight(0, 3, 0);
        check.due("can't be", y.inside(0, 0), 0);
        check.due("can't be", y.inside(0, 2), -1);
    }

    private static void gones() {
        WheelYear x = new WheelYear();
        x.hand(400);
        x.pair(0, 6, 60);
        check.due("no sights", x.gone(0, 0), 399);
        check.due("no sights", x.gone(0, 1), 2);
        check.due("what", x.gone(0, 2), -1);
        check.due("what", x.gone(0, -1), -1);
        check.due("no hand", x.gone(1, 0), -1);
        // day 8 less 1 shows 280: gaps 5 .. 8
        x.sight(0, 8, 280);
        check.due("gaps", x.gone(0, 0), 4);
        check.due("least", x.gone(0, 1), 5);
        x.put(0, 1, 77);
        check.due("own gap aside", x.gone(0, 1), 5);
        x.sight(0, 7, 240);
        check.due("gaps", x.gone(0, 0), 3);
        x.sight(0, 5, 200);
        check.due("gaps", x.gone(0, 0), 2);
        check.due("least", x.gone(0, 1), 6);
        x.sight(0, 0, 1);
        check.due("none", x.gone(0, 0), 0);
        check.due("none", x.gone(0, 1), -1);
        x.forget();
        x.sight(0, 8, 320);
        check.due("gaps that are not reached", x.gone(0, 0), 392);
        check.due("least", x.gone(0, 1), 9);
    }

    private static void togethers() {
        WheelYear x = new WheelYear();
        x.hand(10);
        x.hand(7);
        x.pair(0, 6, 60);
        x.pair(1, 6, 42);
        check.due("together", x.together(0, 3, 1, 4, 0), 53);
        check.due("from that day", x.together(0, 3, 1, 4, 53), 53);
        check.due("next", x.together(1, 4, 0, 3, 54), 123);
        check.due("mark", x.together(0, 10, 1, 4, 0), -1);
        check.due("mark", x.together(0, -1, 1, 4, 0), -1);
        check.due("no hand", x.together(0, 3, 2, 4, 0), -1);
        check.due("no hand", x.together(-1, 3, 1, 4, 0), -1);
        check.due("from", x.together(0, 3, 1, 4, -1), -1);
        check.due("from", x.together(0, 3, 1, 4, 1000001), -1);
        check.due("last day", x.together(0, 0, 1, 1, 1000000), 1000000);
        check.due("not after the last day", x.together(0, 1, 1, 2, 1000000), -1);
        WheelYear y = new WheelYear();
        y.hand(2);
        y.hand(2);
        y.pair(0, 6, 120);
        y.pair(0, 10, 100);
        y.pair(0, 10, 50);
        // 1/1000 a turn a day: half a turn on day 500
        check.due("half", y.together(0, 1, 1, 0, 0), 500);
        y.pair(0, 10, 100);
        check.due("5,000 days later", y.together(0, 1, 1, 0, 0), 5000);
        y.put(1, 0, 1);
        check.due("5,000 days later", y.together(0, 1, 1, 1, 0), 5000);
        y.put(0, 1, 5000);
        check.due("5,001 days later is too late", y.together(0, 1, 1, 1, 0), -1);
        check.due("5,001", y.together(0, 1, 1, 1, 1), 5001);
    }

    private static void knobs() {
        WheelYear x = new WheelYear();
        x.hand(5);
        check.due("no knob", x.push(0, 0, 1), -2);
        for (int k = 0; k < 4; k++) {
            check.due("knob", x.knob(), k);
        }
        check.due("fifth", x.knob(), -5);
        check.due("status", x.status(), -5);
        check.due("count", x.count(4), 4);
        check.due("push", x.push(3, 0, 9), 0);
        check.due("push", x.push(3, 0, 0), 9);
        check.due("push", x.push(3, 0, 4), 0);
        check.due("too far", x.push(3, 0, 10), -1);
        check.due("below", x.push(3, 0, -1), -1);
        check.due("no knob, too far", x.push(4, 0, 10), -1);
        check.due("no knob", x.push(4, 0, 1), -2);
        check.due("no knob", x.push(-1, 0, 1), -2);
        check.due("no hand", x.push(0, 1, 1), -2);
        check.due("no hand", x.push(0, -1, 1), -2);
        x.hand(6);
        check.due("0 at first", x.push(3, 1, 1), 0);
    }

    private static void dueSet(String name, WheelYear x, int mark, int otherMark, int... due) {
        for (int what = 0; what < due.length; what++) {
            check.due(name + " " + what, x.set(0, mark, 1, otherMark, 0, what), due[what]);
        }
    }

    private static void sets() {
        WheelYear x = new WheelYear();
        x.hand(12);
        x.hand(12);
        dueSet("no knobs", x, 0, 0, 0, -1, -1, -1, -1, -1);
        dueSet("no knobs", x, 0, 1, -1, -1);
        for (int k = 0; k < 4; k++) {
            x.knob();
        }
        dueSet("knobs that push nothing", x, 0, 1, -1, -1);
        dueSet("there already", x, 0, 0, 0, 0, 0, 0, 0, -1);
        // (0 2 0 0) comes ahead of (1 0 0 1): fewer of the first knob
        x.push(0, 0, 4);
        x.push(0, 1, 0);
        x.push(1, 0, 2);
        x.push(1, 1, 2);
        x.push(3, 1, 4);
        dueSet("as a row", x, 4, 4, 2, 0, 2, 0, 0, -1);
        x.push(2, 0, 2);
        x.push(2, 1, 2);
        dueSet("later knobs", x, 4, 4, 2, 0, 0, 2, 0);
        dueSet("can't be", x, 1, 0, -1, -1, -1, -1, -1);
        check.due("the same hand", x.set(0, 0, 0, 0, 0, 0), -1);
        check.due("mark", x.set(0, 12, 1, 0, 0, 0), -1);
        check.due("mark", x.set(0, 0, 1, 12, 0, 0), -1);
        check.due("mark", x.set(0, -1, 1, 0, 0, 0), -1);
        check.due("mark", x.set(0, 0, 1, -1, 0, 0), -1);
        check.due("no hand", x.set(0, 0, 2, 0, 0, 0), -1);
        check.due("no hand", x.set(-1, 0, 1, 0, 0, 0), -1);
        check.due("day", x.set(0, 0, 1, 0, -1, 0), -1);
        check.due("day", x.set(0, 0, 1, 0, 1000001, 0), -1);
        check.due("what", x.set(0, 0, 1, 0, 0, -1), -1);
        x.put(0, 0, 8);
        dueSet("from the mark shown", x, 0, 4, 2, 0, 0, 2, 0);
        WheelYear y = new WheelYear();
        y.hand(400);
        y.hand(399);
        y.knob();
        y.push(0, 0, 9);
        y.push(0, 1, 1);
        // 9 n is 391 modulo 400, n is 398 modulo 399: all the way round
        dueSet("far", y, 391, 398, 159599, 159599, -1);
    }

    private static void worns() {
        WheelYear x = new WheelYear();
        x.hand(5);
        check.due("no pairs", x.worn(0), -1);
        check.due("no pairs", x.worn(-1), -1);
        x.pair(0, 6, 60);
        check.due("the first driver", x.worn(0), 10000);
        x.pair(0, 120, 7);
        // 1/10 times 120/7 is 12/7 turns a day
        check.due("the last driven", x.worn(0), 5834);
        x.pair(0, 6, 120);
        check.due("one between", x.worn(0), 5834);
        x.hand(5);
        check.due("first of all", x.worn(-1), 5834);
        x.pair(1, 120, 60);
        check.due("twice", x.worn(1), 5000);
        check.due("first of all", x.worn(-1), 5000);
        x.put(1, 1, 2);
        check.due("gap aside", x.worn(1), 5000);
        x.terms(0, 1);
        check.due("a turn", x.worn(1), 1);
        x.terms(0, 1000000);
        check.due("the last day", x.worn(0), 583334);
        x.strip(1);
        x.pair(1, 6, 120);
        check.due("the last day", x.worn(1), 1000000);
        check.due("no hand", x.worn(2), -1);
        check.due("no hand", x.worn(-2), -1);
    }

    private static void shareds() {
        WheelYear x = new WheelYear();
        x.hand(5);
        x.hand(5);
        x.hand(5);
        x.pair(0, 10, 20);
        x.pair(0, 30, 40);
        x.pair(0, 50, 60);
        check.due("alone", x.shared(), 6);
        x.pair(1, 10, 20);
        x.pair(1, 40, 30);
        check.due("one pair", x.shared(), 8);
        x.pair(1, 50, 60);
        check.due("only what it begins with", x.shared(), 10);
        x.pair(2, 10, 20);
        x.pair(2, 40, 30);
        check.due("with the second", x.shared(), 10);
        x.pair(2, 10, 20);
        check.due("within one", x.shared(), 12);
        x.strip(0);
        check.due("stripped", x.shared(), 8);
        x.pair(0, 20, 10);
        check.due("the other way", x.shared(), 10);
    }
}
