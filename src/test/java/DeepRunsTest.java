import java.util.Random;

/** Random clocks that are set up so that the searching calls find something, compared with the slow clock. */
final class DeepRunsTest {
    private static final Check check = new Check();
    private static final Random random = new Random(77);

    private final WheelYear clock = new WheelYear();
    private final SlowClock model = new SlowClock();
    private final String name;

    private DeepRunsTest(String name) {
        this.name = name;
    }

    public static void main(String[] args) {
        for (int i = 0; i < 400; i++) {
            new DeepRunsTest("settings " + i).settings(i % 40 == 0 ? 400 : 3 + random.nextInt(40));
            new DeepRunsTest("sights " + i).sights();
            new DeepRunsTest("rates " + i).rates();
            new DeepRunsTest("meetings " + i).meetings();
            new DeepRunsTest("gaps " + i).gaps();
        }
        for (int i = 0; i < 300; i++) {
            new DeepRunsTest("cams " + i).cams();
        }
        for (int i = 0; i < 3000; i++) {
            new DeepRunsTest("laws " + i).laws();
        }
        check.end("DeepRunsTest");
    }

    private void due(String call, long got, long want) {
        check.due(name + ": " + call, got, want);
    }

    private void hand(int marks) {
        due("hand", clock.hand(marks), model.hand(marks));
    }

    private void put(int hand, int what, int value) {
        due("put", clock.put(hand, what, value), model.put(hand, what, value));
    }

    private void pair(int hand, int driver, int driven) {
        due("pair", clock.pair(hand, driver, driven), model.pair(hand, driver, driven));
    }

    private void wheel(int teeth) {
        due("wheel", clock.wheel(teeth), model.wheel(teeth));
    }

    private void law(String text) {
        clock.end(0);
        model.end(0);
        for (int at = 0; at < text.length(); at += 20) {
            int[] n = new int[5];
            for (int j = 0; j < 5; j++) {
                n[j] = Check.four(text, at + 4 * j);
            }
            due("feed", clock.feed(n[0], n[1], n[2], n[3], n[4]), model.feed(n[0], n[1], n[2], n[3], n[4]));
        }
        due("end", clock.end(text.length()), model.end(text.length()));
        due("law " + text, clock.law(), model.law());
        due("fault " + text, clock.fault(), model.fault());
        due("force " + text, clock.force(0), model.force(0));
    }

    private void settings(int widest) {
        int one = random.nextInt(2);
        hand(1 + random.nextInt(widest));
        hand(1 + random.nextInt(widest));
        int knobs = random.nextInt(5);
        for (int k = 0; k < knobs; k++) {
            due("knob", clock.knob(), model.knob());
            for (int h = 0; h < 2; h++) {
                int by = random.nextInt(10);
                due("push", clock.push(k, h, by), model.push(k, h, by));
            }
        }
        for (int i = 0; i < 10; i++) {
            int mark = random.nextInt(clock.of(one, 0));
            int other = random.nextInt(clock.of(1 - one, 0));
            int day = random.nextInt(1000);
            for (int what = -1; what <= 5; what++) {
                due("set " + mark + " " + other + " " + what, clock.set(one, mark, 1 - one, other, day, what),
                        model.set(one, mark, 1 - one, other, day, what));
            }
        }
    }

    private void stock(int wheels, int most) {
        for (int i = 0; i < wheels; i++) {
            wheel(6 + random.nextInt(most));
        }
    }

    private void sights() {
        hand(1 + random.nextInt(20));
        hand(2 + random.nextInt(20));
        stock(random.nextInt(8), random.nextInt(2) == 0 ? 8 : 115);
        // what is seen comes from a train of the stock, so that it is found inside
        int hand = random.nextInt(2);
        int wheels = clock.count(1);
        if (wheels >= 2) {
            pair(hand, clock.teeth(0), clock.teeth(1));
            if (wheels >= 4 && random.nextBoolean()) {
                pair(hand, clock.teeth(3), clock.teeth(2));
            }
        }
        put(hand, 0, random.nextInt(clock.of(hand, 0)));
        int seen = random.nextInt(11);
        for (int i = 0; i < seen; i++) {
            int day = random.nextInt(random.nextBoolean() ? 40 : 1000001);
            int whose = random.nextInt(5) == 0 ? 1 - hand : hand;
            int mark = random.nextInt(40) == 0 ? 0 : clock.shows(whose, day, 0);
            due("sight", clock.sight(whose, day, mark), model.sight(whose, day, mark));
        }
        for (int h = 0; h < 2; h++) {
            for (int what = -1; what <= 7; what++) {
                due("inside " + h + " " + what, clock.inside(h, what), model.inside(h, what));
            }
        }
    }

    private void gaps() {
        hand(2 + random.nextInt(30));
        pair(0, 6 + random.nextInt(20), 6 + random.nextInt(60));
        put(0, 1, 2 + random.nextInt(random.nextBoolean() ? 20 : 400));
        put(0, 0, random.nextInt(clock.of(0, 0)));
        int seen = 1 + random.nextInt(10);
        for (int i = 0; i < seen; i++) {
            int day = random.nextInt(random.nextBoolean() ? 100 : 10000);
            int mark = clock.shows(0, day, 0);
            due("sight", clock.sight(0, day, mark), model.sight(0, day, mark));
        }
        for (int what = -1; what <= 2; what++) {
            due("gone " + what, clock.gone(0, what), model.gone(0, what));
        }
    }

    private void rates() {
        stock(random.nextInt(9), random.nextInt(2) == 0 ? 8 : 115);
        hand(7);
        for (int i = 0; i < 4; i++) {
            int p = 1 + random.nextInt(random.nextBoolean() ? 9 : 100000);
            int q = 1 + random.nextInt(random.nextBoolean() ? 9 : 100000);
            for (int what = -1; what <= 5; what++) {
                due("nearest", clock.nearest(p, q, what), model.nearest(p, q, what));
                due("near", clock.near(p, q, what), model.near(p, q, what));
            }
            due("mount", clock.mount(0, p, q), model.mount(0, p, q));
            int r = i % 2 == 0 ? p : p + 1;
            for (int what = -1; what <= 12; what++) {
                due("of", clock.of(0, what), model.of(0, what));
                due("off", clock.off(0, r, q, what), model.off(0, r, q, what));
            }
            due("worn", clock.worn(0), model.worn(0));
        }
    }

    private void meetings() {
        hand(1 + random.nextInt(12));
        hand(1 + random.nextInt(30));
        pair(0, 6 + random.nextInt(10), 6 + random.nextInt(30));
        pair(1, 6 + random.nextInt(10), 6 + random.nextInt(115));
        put(1, 1, random.nextInt(4) == 0 ? 5 : 0);
        for (int i = 0; i < 3; i++) {
            int from = random.nextInt(4) == 0 ? 999990 : random.nextInt(3000);
            int mark = random.nextInt(clock.of(0, 0));
            int other = random.nextInt(clock.of(1, 0));
            due("together", clock.together(0, mark, 1, other, from), model.together(0, mark, 1, other, from));
            due("together alone", clock.together(1, other, 1, other, from), model.together(1, other, 1, other, from));
        }
    }

    private void cams() {
        hand(1 + random.nextInt(12));
        String[] texts = {"shows day%N", "shows day%N;shows day%K if day%3=1", "shows 5 if day%N<K", "shows turn%K",
            "shows day%N/K;shows 0 if day>150", "shows [day+K]%N;shows 1/[day%N]", "shows 3", "shows day/N%K"};
        String text = texts[random.nextInt(texts.length)];
        law(text.replace("N", "" + (1 + random.nextInt(120))).replace("K", "" + (1 + random.nextInt(9))));
        pair(0, 6 + random.nextInt(5), 6 + random.nextInt(10));
        for (int i = 0; i < 3; i++) {
            int n = 98 + random.nextInt(i == 2 ? 1905 : 120);
            due("cam " + text + " " + n, clock.cam(0, n), model.cam(0, n));
        }
    }

    private void laws() {
        law(RandomLaws.text(random));
        hand(1 + random.nextInt(400));
        hand(1 + random.nextInt(10));
        pair(1, 6 + random.nextInt(100), 6 + random.nextInt(100));
        put(1, 1, random.nextInt(4));
        for (int i = 0; i < 12; i++) {
            int hand = random.nextInt(2);
            int day = random.nextInt(random.nextBoolean() ? 12 : 1000001);
            put(0, 0, random.nextInt(clock.of(0, 0)));
            due("should", clock.should(hand, day), model.should(hand, day));
            due("shows", clock.shows(hand, day, 2), model.shows(hand, day, 2));
        }
        int from = random.nextInt(1000);
        due("wrong", clock.wrong(1, from, from + 30, 0), model.wrong(1, from, from + 30, 0));
        due("wrong", clock.wrong(1, from, from + 30, 1), model.wrong(1, from, from + 30, 1));
    }
}
