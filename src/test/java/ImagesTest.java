/** Promises 37 to 42: storms, images, counts, what calls were refused by. */
final class ImagesTest {
    private static final Check check = new Check();

    public static void main(String[] args) {
        storms();
        images();
        whatImagesDoNotKeep();
        refusals();
        check.end("ImagesTest");
    }

    private static void storms() {
        WheelYear x = new WheelYear();
        check.due("no storm", x.stormed(0, 0), -1);
        check.due("no hands", x.storm(0, 0, 1), 0);
        check.due("no hands", x.stormed(0, 0), -1);
        x.hand(7);
        x.hand(10);
        x.pair(0, 6, 42);
        x.pair(1, 6, 60);
        check.due("a hand made later", x.stormed(0, 0), -1);
        int[] lost = new int[2];
        long s = 1000000;
        for (int i = 0; i < 100; i++) {
            for (int h = 0; h < 2; h++) {
                s = (s * 1103 + 12345) % 1000003;
                lost[h] += s % 10 == 0 ? 1 : 0;
            }
        }
        check.due("lost", x.storm(1000000, 999900, 100), lost[0] + lost[1]);
        check.due("some are lost", lost[0] > 0 && lost[1] > 0);
        check.due("lost", x.stormed(0, 1), lost[0]);
        check.due("lost", x.stormed(1, 1), lost[1]);
        check.due("shows", x.stormed(0, 0), (1000000 - lost[0]) % 7);
        check.due("shows", x.stormed(1, 0), (1000000 - lost[1]) % 10);
        check.due("what", x.stormed(0, 2), -1);
        check.due("what", x.stormed(0, -1), -1);
        check.due("no hand", x.stormed(2, 0), -1);
        check.due("no hand", x.stormed(-1, 0), -1);
        x.strip(0);
        check.due("on paper", x.stormed(0, 0), (1000000 - lost[0]) % 7);
        check.due("the clock stays", x.shows(1, 1000000, 0), 0);
        check.due("n", x.storm(0, 0, 0), -1);
        check.due("n", x.storm(0, 0, 101), -1);
        check.due("seed", x.storm(-1, 0, 1), -1);
        check.due("seed", x.storm(1000001, 0, 1), -1);
        check.due("day", x.storm(0, -1, 1), -1);
        check.due("day", x.storm(0, 1000000, 1), -1);
        check.due("day", x.storm(0, Integer.MAX_VALUE, 1), -1);
        check.due("status", x.status(), -1);
        check.due("the latest stays", x.stormed(1, 1), lost[1]);
        check.due("day", x.storm(0, 999999, 1) >= 0);
    }

    private static WheelYear full() {
        WheelYear x = new WheelYear();
        x.hand(12);
        x.hand(30);
        x.put(0, 0, 5);
        x.put(0, 1, 9);
        x.pair(0, 10, 20);
        x.pair(0, 11, 22);
        x.wheel(60);
        x.wheel(61);
        x.terms(0, 777);
        Check.law(x, "shows 3");
        Check.law(x, "shows 4");
        x.force(1);
        x.sight(0, 5, 6);
        x.knob();
        x.push(0, 1, 3);
        return x;
    }

    private static void spoil(WheelYear x) {
        x.hand(9);
        x.put(0, 0, 1);
        x.put(0, 1, 2);
        x.strip(0);
        x.pair(0, 100, 7);
        x.drop(0);
        x.wheel(7);
        x.wheel(8);
        x.terms(0, 5);
        Check.law(x, "shows 9");
        x.force(2);
        x.forget();
        x.knob();
        x.push(0, 1, 7);
        x.push(1, 2, 7);
    }

    private static void dueFull(String name, WheelYear x) {
        int[] counts = {2, 2, 2, 1, 1};
        for (int what = 0; what < counts.length; what++) {
            check.due(name + " count " + what, x.count(what), counts[what]);
        }
        check.due(name + " force", x.count(10), 1);
        check.due(name + " wear", x.count(11), 777);
        int[] of = {12, 5, 9, 2, 10, 20, 11, 22, -1};
        for (int what = 0; what < of.length; what++) {
            check.due(name + " of " + what, x.of(0, what), of[what]);
        }
        check.due(name + " rate", x.rate(0, 1), 4);
        check.due(name + " teeth", x.teeth(0), 60);
        check.due(name + " teeth", x.teeth(1), 61);
        check.due(name + " should", x.should(0, 0), 4);
        check.due(name + " sights", x.inside(0, 0), 2);
        check.due(name + " push", x.push(0, 1, 3), 3);
        check.due(name + " no hand", x.of(2, 0), -1);
    }

    private static void images() {
        WheelYear x = full();
        check.due("image", x.image(-1), -1);
        check.due("image", x.image(2), -1);
        check.due("back", x.back(-1), -1);
        check.due("back", x.back(2), -1);
        check.due("back, not kept", x.back(0), -2);
        check.due("status", x.status(), -2);
        check.due("image", x.image(0), 0);
        check.due("status", x.status(), 0);
        spoil(x);
        check.due("image", x.image(1), 0);
        check.due("back", x.back(0), 0);
        dueFull("first back", x);
        check.due("a hand made anew", x.hand(9), 2);
        check.due("its pairs", x.of(2, 3), 0);
        x.knob();
        check.due("0 at first again", x.push(1, 2, 1), 0);
        check.due("a law anew", Check.law(x, "shows 5"), 2);
        x.force(2);
        check.due("the law anew", x.should(0, 0), 5);
        check.due("back", x.back(1), 0);
        check.due("the other image", x.should(0, 0), 9);
        check.due("the other image", x.of(0, 4), 100);
        check.due("the other image", x.push(1, 2, 0), 7);
        check.due("the other image", x.count(3), 0);
        check.due("back", x.back(0), 0);
        dueFull("second back", x);
        spoil(x);
        check.due("images stay", x.back(0), 0);
        dueFull("third back", x);
        for (int i = 0; i < 4; i++) {
            x.pair(1, 50 + i, 60 + i);
        }
        x.image(1);
        x.strip(1);
        for (int i = 0; i < 4; i++) {
            x.pair(1, 70 + i, 80 + i);
        }
        x.back(1);
        for (int i = 0; i < 4; i++) {
            check.due("four pairs", x.of(1, 4 + 2 * i), 50 + i);
            check.due("four pairs", x.of(1, 5 + 2 * i), 60 + i);
        }
        x.terms(0, 3);
        x.image(0);
        x.terms(0, 4);
        x.back(0);
        check.due("kept anew", x.count(11), 3);
    }

    private static void whatImagesDoNotKeep() {
        WheelYear x = new WheelYear();
        x.hand(4);
        x.image(0);
        x.hand(5);
        check.due("storm", x.storm(5, 10, 1), 1);
        check.due("lost", x.stormed(0, 1), 1);
        Check.tape(x, "a~b");
        check.due("row", x.row(), 2);
        Check.law(x, "shows x");
        x.hand(0);
        x.strip(7);
        x.feed(0, 0, 0, 0, 0);
        check.due("back", x.back(0), 0);
        check.due("status", x.status(), 0);
        check.due("tape", x.count(5), 20);
        check.due("fault", x.fault(), 6);
        check.due("bent", x.bent(), 1);
        check.due("storm", x.stormed(0, 1), 1);
        check.due("the storm's second hand", x.stormed(1, 1), 0);
        check.due("refused by -1", x.count(6), 1);
        check.due("refused by -2", x.count(7), 1);
        check.due("refused by -6", x.count(9), 1);
        check.due("hands", x.count(0), 1);
    }

    private static void refusals() {
        WheelYear x = new WheelYear();
        int[] answers = {x.hand(0), x.put(0, 2, 0), x.pair(0, 5, 5), x.wheel(5), x.terms(1, 1), x.mount(0, 0, 0),
            x.sight(0, -1, 0), x.push(0, 0, 10), x.storm(0, 0, 0), x.image(2), x.back(2)};
        for (int answer : answers) {
            check.due("-1", answer, -1);
        }
        check.due("count", x.count(6), answers.length);
        int[] missing = {x.put(0, 0, 0), x.pair(0, 6, 6), x.strip(0), x.drop(0), x.force(0), x.mount(0, 1, 1),
            x.sight(0, 0, 0), x.push(0, 0, 0), x.back(1)};
        for (int answer : missing) {
            check.due("-2", answer, -2);
        }
        check.due("count", x.count(7), missing.length);
        check.due("status", x.status(), -2);
        // calls that are not told of leave the status as it was, and are never counted
        x.of(9, 9);
        x.teeth(-1);
        x.feed(0, 0, 0, 0, 0);
        x.end(-1);
        x.bent();
        x.fault();
        x.rate(9, 9);
        x.shows(9, 9, 9);
        x.should(9, 9);
        x.wrong(9, 9, 9, 9);
        x.off(9, 9, 9, 9);
        x.nearest(0, 0, 0);
        x.near(0, 0, 0);
        x.cam(9, 9);
        x.forget();
        x.inside(9, 9);
        x.gone(9, 9);
        x.together(9, 9, 9, 9, 9);
        x.set(9, 9, 9, 9, 9, 9);
        x.worn(9);
        x.shared();
        x.stormed(9, 9);
        x.count(99);
        check.due("status", x.status(), -2);
        check.due("count", x.count(6), answers.length);
        check.due("count", x.count(7), missing.length);
        check.due("count", x.count(8), 0);
        check.due("count", x.count(9), 0);
        check.due("terms", x.terms(0, 4), 10000);
        check.due("status", x.status(), 0);
        x.row();
        check.due("none refused", x.status(), 0);
        x.row();
        check.due("status", x.status(), -6);
        check.due("count", x.count(9), 1);
    }
}
