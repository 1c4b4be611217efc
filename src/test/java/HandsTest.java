/** Promises 1 to 10 and 18, 19: hands, stock, terms, rates, what hands show. */
final class HandsTest {
    private static final Check check = new Check();

    public static void main(String[] args) {
        newObject();
        hands();
        puts();
        pairs();
        stock();
        terms();
        rates();
        shows();
        check.end("HandsTest");
    }

    private static void newObject() {
        WheelYear x = new WheelYear();
        check.due("NONE", WheelYear.NONE, -1);
        for (int what = 0; what <= 9; what++) {
            check.due("new count " + what, x.count(what), 0);
        }
        check.due("new count 10", x.count(10), -1);
        check.due("new count 11", x.count(11), 10000);
        check.due("new count 12", x.count(12), -1);
        check.due("new count -1", x.count(-1), -1);
        check.due("new status", x.status(), 0);
        check.due("new fault", x.fault(), -1);
        check.due("new bent", x.bent(), 0);
        check.due("new shared", x.shared(), 0);
        check.due("new worn", x.worn(-1), -1);
        check.due("new stormed", x.stormed(0, 0), -1);
        check.due("new forget", x.forget(), 0);
    }

    private static void hands() {
        WheelYear x = new WheelYear();
        check.due("hand 0", x.hand(0), -1);
        check.due("status", x.status(), -1);
        check.due("hand 401", x.hand(401), -1);
        check.due("hand 1", x.hand(1), 0);
        check.due("status", x.status(), 0);
        check.due("hand 400", x.hand(400), 1);
        for (int i = 2; i < 6; i++) {
            check.due("hand", x.hand(10 + i), i);
        }
        check.due("seventh", x.hand(10), -5);
        check.due("status", x.status(), -5);
        check.due("seventh that can't be", x.hand(0), -1);
        check.due("count", x.count(0), 6);
        check.due("of marks", x.of(1, 0), 400);
        check.due("of offset", x.of(1, 1), 0);
        check.due("of gap", x.of(1, 2), 0);
        check.due("of pairs", x.of(1, 3), 0);
        for (int what = 4; what <= 12; what++) {
            check.due("of no pair", x.of(1, what), -1);
        }
        check.due("of below", x.of(1, -1), -1);
        check.due("of no hand", x.of(6, 0), -1);
        check.due("of no hand", x.of(-1, 0), -1);
        check.due("refused -1", x.count(6), 3);
        check.due("refused -5", x.count(8), 1);
    }

    private static void puts() {
        WheelYear x = new WheelYear();
        x.hand(12);
        check.due("offset", x.put(0, 0, 11), 0);
        check.due("offset again", x.put(0, 0, 3), 11);
        check.due("offset too large", x.put(0, 0, 12), -1);
        check.due("offset below", x.put(0, 0, -1), -1);
        check.due("gap", x.put(0, 1, 9999), 0);
        check.due("gap again", x.put(0, 1, 0), 9999);
        check.due("gap too large", x.put(0, 1, 10000), -1);
        check.due("what", x.put(0, 2, 0), -1);
        check.due("what", x.put(0, -1, 0), -1);
        check.due("no hand, offset large", x.put(1, 0, 500), -2);
        check.due("no hand, offset below", x.put(1, 0, -1), -1);
        check.due("no hand, gap large", x.put(1, 1, 10000), -1);
        check.due("no hand, what", x.put(1, 2, 0), -1);
        check.due("status", x.status(), -1);
        check.due("no hand", x.put(-1, 1, 0), -2);
        check.due("status", x.status(), -2);
        check.due("of", x.of(0, 1), 3);
        check.due("of", x.of(0, 2), 0);
    }

    private static void pairs() {
        WheelYear x = new WheelYear();
        x.hand(12);
        check.due("driver 5", x.pair(0, 5, 6), -1);
        check.due("driver 121", x.pair(0, 121, 6), -1);
        check.due("driven 5", x.pair(0, 6, 5), -1);
        check.due("driven 121", x.pair(0, 6, 121), -1);
        check.due("no hand", x.pair(1, 6, 6), -2);
        check.due("no hand, teeth", x.pair(1, 5, 6), -1);
        for (int i = 0; i < 4; i++) {
            check.due("pair", x.pair(0, 6 + i, 120 - i), i + 1);
        }
        check.due("fifth", x.pair(0, 6, 6), -5);
        check.due("fifth, teeth", x.pair(0, 5, 6), -1);
        check.due("of pairs", x.of(0, 3), 4);
        for (int i = 0; i < 4; i++) {
            check.due("of driver", x.of(0, 4 + 2 * i), 6 + i);
            check.due("of driven", x.of(0, 5 + 2 * i), 120 - i);
        }
        check.due("of 12", x.of(0, 12), -1);
        check.due("strip", x.strip(0), 4);
        check.due("strip", x.strip(0), 0);
        check.due("strip no hand", x.strip(1), -2);
        check.due("strip no hand", x.strip(-1), -2);
        check.due("of driver", x.of(0, 4), -1);
        check.due("pair", x.pair(0, 60, 120), 1);
        check.due("of driver", x.of(0, 4), 60);
        check.due("of second driver", x.of(0, 6), -1);
    }

    private static void stock() {
        WheelYear x = new WheelYear();
        check.due("5 teeth", x.wheel(5), -1);
        check.due("121 teeth", x.wheel(121), -1);
        for (int i = 0; i < 12; i++) {
            check.due("wheel", x.wheel(6 + i), i);
        }
        check.due("13th", x.wheel(6), -5);
        check.due("13th", x.wheel(121), -1);
        check.due("teeth", x.teeth(11), 17);
        check.due("teeth", x.teeth(12), -1);
        check.due("teeth", x.teeth(-1), -1);
        check.due("drop none", x.drop(12), -2);
        check.due("drop none", x.drop(-1), -2);
        check.due("drop last", x.drop(11), 11);
        check.due("drop first", x.drop(0), 10);
        check.due("drop between", x.drop(3), 9);
        int[] left = {7, 8, 9, 11, 12, 13, 14, 15, 16};
        for (int i = 0; i < left.length; i++) {
            check.due("teeth left", x.teeth(i), left[i]);
        }
        check.due("teeth gone", x.teeth(9), -1);
        check.due("wheel", x.wheel(120), 9);
        check.due("count", x.count(1), 10);
    }

    private static void terms() {
        WheelYear x = new WheelYear();
        check.due("terms", x.terms(0, 1), 10000);
        check.due("terms", x.terms(0, 1000000), 1);
        check.due("terms", x.terms(0, 1000001), -1);
        check.due("terms", x.terms(0, 0), -1);
        check.due("terms", x.terms(1, 5), -1);
        check.due("terms", x.terms(-1, 5), -1);
        check.due("count", x.count(11), 1000000);
    }

    private static void rates() {
        WheelYear x = new WheelYear();
        x.hand(400);
        check.due("rate", x.rate(0, 0), 1);
        check.due("rate", x.rate(0, 1), 1);
        for (int i = 0; i < 4; i++) {
            x.pair(0, 120, 119 - 2 * i);
        }
        check.due("rate", x.rate(0, 0), 4608000L);
        check.due("rate", x.rate(0, 1), 119L * 117 * 115 * 113 / 45);
        check.due("rate what", x.rate(0, 2), -1);
        check.due("rate what", x.rate(0, -1), -1);
        check.due("rate no hand", x.rate(1, 0), -1);
        x.strip(0);
        check.due("rate", x.rate(0, 1), 1);
    }

    private static void shows() {
        WheelYear x = new WheelYear();
        x.hand(400);
        for (int i = 0; i < 4; i++) {
            x.pair(0, 120, 6);
        }
        x.put(0, 0, 399);
        check.due("shows", x.shows(0, 1000000, 0), 399);
        check.due("turns", x.shows(0, 1000000, 1), 0);
        check.due("turns", x.shows(0, 7, 1), 120000);
        x.strip(0);
        x.pair(0, 119, 113);
        // 999,999 times 119 through 113 is 1,053,096 and 51 through 113
        check.due("shows", x.shows(0, 999999, 0), (999999L * 119 * 400 / 113 + 399) % 400);
        check.due("turns", x.shows(0, 999999, 1), 999999L * 119 / 113 % 1000000);
        x.put(0, 1, 3);
        check.due("shows with a gap", x.shows(0, 10, 0), (7L * 119 * 400 / 113 + 399) % 400);
        check.due("shows with a gap", x.shows(0, 2, 1), 2);
        x.put(0, 1, 1);
        check.due("never goes", x.shows(0, 77, 0), 399);
        check.due("never goes", x.shows(0, 77, 1), 0);
        check.due("not wrong without a law", x.shows(0, 77, 2), 0);
        check.due("day", x.shows(0, -1, 0), -1);
        check.due("day", x.shows(0, 1000001, 0), -1);
        check.due("what", x.shows(0, 0, 3), -1);
        check.due("what", x.shows(0, 0, -1), -1);
        check.due("no hand", x.shows(1, 0, 0), -1);
    }
}
