/** Bounds of promises 22 to 25: rates that are told, trains of stock wheels that come nearest. */
final class RateBounds {
    private static final int NONE = Bounds.NONE;
    private static final int MOST_RATE = 100000;
    private static final int[] NO_RATES = {0, -1, MOST_RATE + 1, Bounds.LEAST, Bounds.MOST};
    private static final int[] NO_HANDS = {-1, 1, 6, -2, Bounds.LEAST, Bounds.MOST};

    private static void due(String call, long got, long want) {
        Bounds.due(call, got, want);
    }

    private static WheelYear handOf(int driver, int driven) {
        WheelYear x = Bounds.hands(1, 12);
        x.pair(0, driver, driven);
        return x;
    }

    private static WheelYear stockOf(int... teeth) {
        WheelYear x = new WheelYear();
        Bounds.stock(x, teeth);
        return x;
    }

    // ---- Promise 22: "OFF a rate, in lowest terms: upper (what 0; 0: not at all), lower number (1); the first DAY a whole
    // turn off (2). NONE (P, Q; never by DAY 1,000,000, for 2)."

    private static void dueOff(WheelYear x, int p, int q, long upper, long lower, long day) {
        String rate = "off(0, " + p + ", " + q + ", ";
        due(rate + "0)", x.off(0, p, q, 0), upper);
        due(rate + "1)", x.off(0, p, q, 1), lower);
        due(rate + "2)", x.off(0, p, q, 2), day);
    }

    static void promise22_ratesFrom1To100000() {
        WheelYear x = Bounds.hands(1, 12);
        dueOff(x, MOST_RATE, MOST_RATE, 0, 1, NONE);
        dueOff(x, MOST_RATE, 1, MOST_RATE - 1, 1, 1);
        dueOff(x, 1, MOST_RATE, MOST_RATE - 1, MOST_RATE, 2);
    }

    static void promise22_noneForOtherRates() {
        WheelYear x = Bounds.hands(1, 12);
        for (int rate : NO_RATES) {
            for (int what = 0; what <= 2; what++) {
                due("P " + rate + " for " + what, x.off(0, rate, 1, what), NONE);
                due("Q " + rate + " for " + what, x.off(0, 1, rate, what), NONE);
            }
        }
    }

    static void promise22_notAtAll() {
        dueOff(handOf(6, 12), 1, 2, 0, 1, NONE);
        dueOff(handOf(6, 12), 50000, MOST_RATE, 0, 1, NONE);
        dueOff(handOf(30, 7), 30, 7, 0, 1, NONE);
    }

    static void promise22_moreOrLess() {
        dueOff(handOf(6, 12), 1, 3, 1, 6, 6);
        dueOff(handOf(6, 12), 2, 3, 1, 6, 6);
    }

    static void promise22_lowestTerms() {
        dueOff(handOf(60, 120), 10, 40, 1, 4, 4);
        dueOff(handOf(60, 120), 5, 2, 2, 1, 1);
    }

    static void promise22_theFirstDayOnWhichItIsAWholeTurn() {
        // 9/26 a day: 18/26 on day 2, 27/26 on day 3
        dueOff(handOf(6, 12), 11, 13, 9, 26, 3);
        dueOff(handOf(6, 12), 3, 2, 1, 1, 1);
        // 11/10 is a whole turn on day 1, 9/10 on day 2
        dueOff(Bounds.hands(1, 12), 21, 10, 11, 10, 1);
        dueOff(Bounds.hands(1, 12), 19, 10, 9, 10, 2);
    }

    static void promise22_onDay1000000AndNeverByIt() {
        // 7/64 less 1709/15625, 34/101 less 3333/9901
        dueOff(handOf(7, 64), 1709, 15625, 1, 1000000, 1000000);
        dueOff(handOf(34, 101), 3333, 9901, 1, 1000001, NONE);
    }

    static void promise22_withoutGap() {
        WheelYear x = handOf(6, 12);
        x.put(0, 1, 1);
        dueOff(x, 1, 3, 1, 6, 6);
        x.put(0, 1, 2);
        dueOff(x, 1, 3, 1, 6, 6);
    }

    static void promise22_largestNumbers() {
        WheelYear x = Bounds.hands(1, 12);
        for (int i = 0; i < 4; i++) {
            x.pair(0, 120, 119);
        }
        long upper = 207360000L;
        long lower = 200533921L;
        dueOff(x, 1, 99989, upper * 99989 - lower, lower * 99989, 1);
        dueOff(x, 99989, 1, lower * 99989 - upper, lower, 1);
    }

    static void promise22_noneForOtherWhatsAndHands() {
        WheelYear x = handOf(6, 12);
        due("what 3", x.off(0, 1, 1, 3), NONE);
        due("what -1", x.off(0, 1, 1, -1), NONE);
        for (int hand : NO_HANDS) {
            for (int what = 0; what <= 2; what++) {
                due("off(" + hand + ", 1, 2, " + what + ")", x.off(hand, 1, 2, what), NONE);
            }
        }
    }

    // ---- Promise 23: "NEAREST to a rate: how many PAIRS (what 0), wheels (numbers of the STOCK) driver, driven of the
    // first (1, 2), of the second PAIR (3, 4). NONE (P, Q; less than two wheels; there are not so many)."

    /** The row that is due, its wheels one by one; those that it has not are NONE. */
    private static void dueRow(WheelYear x, int p, int q, int... wheels) {
        String rate = "nearest(" + p + ", " + q + ", ";
        due(rate + "0)", x.nearest(p, q, 0), wheels.length / 2);
        for (int i = 0; i < 4; i++) {
            due(rate + (i + 1) + ")", x.nearest(p, q, i + 1), i < wheels.length ? wheels[i] : NONE);
        }
    }

    static void promise23_ratesFrom1To100000() {
        WheelYear x = stockOf(10, 20);
        dueRow(x, 1, MOST_RATE, 0, 1);
        dueRow(x, MOST_RATE, 1, 1, 0);
        dueRow(x, MOST_RATE, MOST_RATE, 0, 1);
    }

    static void promise23_noneForOtherRates() {
        WheelYear x = stockOf(10, 20, 30, 40);
        for (int rate : NO_RATES) {
            for (int what = 0; what <= 4; what++) {
                due("P " + rate + " for " + what, x.nearest(rate, 1, what), NONE);
                due("Q " + rate + " for " + what, x.nearest(1, rate, what), NONE);
            }
        }
    }

    static void promise23_lessThanTwoWheels() {
        for (int what = 0; what <= 4; what++) {
            due("no wheel, " + what, stockOf().nearest(1, 1, what), NONE);
            due("one wheel, " + what, stockOf(10).nearest(1, 1, what), NONE);
        }
        due("two wheels", stockOf(10, 10).nearest(1, 1, 0), 1);
    }

    static void promise23_thereAreNotSoMany() {
        WheelYear x = stockOf(10, 20, 30, 40);
        dueRow(x, 1, 2, 0, 1);
        dueRow(x, 3, 8, 0, 1, 2, 3);
    }

    static void promise23_eachWheelIsUsedOnce() {
        // 10/10 would be 1, 10/20 times 10/20 a quarter, each with one wheel twice
        dueRow(stockOf(10, 20), 1, 1, 0, 1);
        dueRow(stockOf(10, 20, 7), 1, 4, 2, 1);
        dueRow(stockOf(10, 20, 10, 20), 1, 4, 0, 1, 2, 3);
    }

    static void promise23_threeWheelsAreOnePair() {
        WheelYear x = stockOf(120, 6, 6);
        dueRow(x, 400, 1, 0, 1);
        x.wheel(120);
        dueRow(x, 400, 1, 0, 1, 3, 2);
    }

    static void promise23_twoPairsAtMost() {
        // three PAIRS would be 8000 and nearer
        dueRow(stockOf(120, 6, 120, 6, 120, 6), 8000, 1, 0, 1, 2, 3);
    }

    static void promise23_ofAlikeOnesFewerPairs() {
        // 20/60 times 60/40 is 20/40 as well
        dueRow(stockOf(20, 60, 60, 40), 1, 2, 0, 3);
        // 40/30 stands alone, and as 20/30 times 60/30 too, which would be the first row
        dueRow(stockOf(20, 30, 30, 60, 40), 4, 3, 4, 1);
    }

    static void promise23_ofAlikeOnesTheFirstRow() {
        dueRow(stockOf(10, 20, 10, 20), 1, 2, 0, 1);
        dueRow(stockOf(20, 10, 20, 10), 1, 2, 1, 0);
        // 6 and 12 teeth: 1/2 by wheels 0 and 1, by 0 and 3, by 2 and 1, by 2 and 3
        dueRow(stockOf(6, 12, 6, 12), 1, 2, 0, 1);
        // 7 times 8 through 9 times 10, whatever the order
        dueRow(stockOf(10, 8, 9, 7), 56, 90, 1, 0, 3, 2);
        dueRow(stockOf(7, 9, 8, 10), 56, 90, 0, 1, 2, 3);
        dueRow(stockOf(9, 7, 10, 8), 56, 90, 1, 0, 3, 2);
    }

    static void promise23_moreAndLessByAsMuchAreAlike() {
        // 1/2 and 2 are both 3/4 off 5/4
        dueRow(stockOf(10, 20), 5, 4, 0, 1);
        dueRow(stockOf(20, 10), 5, 4, 0, 1);
    }

    static void promise23_aPairMoreOnlyIfItIsNearer() {
        WheelYear x = stockOf(100, 99);
        dueRow(x, 101, 100, 0, 1);
        Bounds.stock(x, 101, 100);
        dueRow(x, 101, 100, 2, 0);
        // 101/99 is the fastest, by one PAIR and by two
        dueRow(x, 2, 1, 2, 1);
        dueRow(stockOf(100, 99, 101, 98), 2, 1, 0, 1, 2, 3);
    }

    static void promise23_twelveWheelsAndTheirLast() {
        WheelYear x = stockOf(60, 60, 60, 60, 60, 60, 60, 60, 59, 58, 113, 7);
        dueRow(x, 113, 7, 10, 11);
        dueRow(x, 113 * 59, 7 * 58, 8, 9, 10, 11);
        dueRow(x, 58 * 7, 113 * 59, 9, 8, 11, 10);
    }

    static void promise23_noneForOtherWhats() {
        WheelYear x = stockOf(10, 20, 30, 40);
        for (int what : new int[] {-1, 5, 6, Bounds.LEAST, Bounds.MOST}) {
            due("nearest(3, 8, " + what + ")", x.nearest(3, 8, what), NONE);
        }
    }

    // ---- Promise 24: "By how much NEAREST is off, in lowest terms: upper (what 0), lower number (1). NONE."

    private static void dueNear(WheelYear x, int p, int q, long upper, long lower) {
        due("near(" + p + ", " + q + ", 0)", x.near(p, q, 0), upper);
        due("near(" + p + ", " + q + ", 1)", x.near(p, q, 1), lower);
    }

    static void promise24_notOffIs0Through1() {
        dueNear(stockOf(10, 20), 1, 2, 0, 1);
        dueNear(stockOf(10, 20), 50000, MOST_RATE, 0, 1);
    }

    static void promise24_ratesFrom1To100000() {
        WheelYear x = stockOf(10, 20);
        dueNear(x, MOST_RATE, 1, MOST_RATE - 2, 1);
        dueNear(x, 1, MOST_RATE, 49999, MOST_RATE);
        for (int rate : NO_RATES) {
            for (int what = 0; what <= 1; what++) {
                due("P " + rate + " for " + what, x.near(rate, 1, what), NONE);
                due("Q " + rate + " for " + what, x.near(1, rate, what), NONE);
            }
        }
    }

    static void promise24_lowestTerms() {
        dueNear(stockOf(60, 120), 10, 40, 1, 4);
        // 7/9 times 8/10 is 28/45, 84/135
        dueNear(stockOf(7, 9, 8, 10), 28 * 3 - 1, 45 * 3, 1, 135);
    }

    static void promise24_moreAndLess() {
        dueNear(stockOf(10, 20), 5, 4, 3, 4);
        dueNear(stockOf(10, 20), 3, 1, 1, 1);
        dueNear(stockOf(10, 20), 1, 3, 1, 6);
    }

    static void promise24_largestNumbers() {
        WheelYear x = stockOf(119, 113);
        dueNear(x, 99991, 99989, 119L * 99991 - 113L * 99989, 119L * 99989);
        Bounds.stock(x, 118, 109);
        dueNear(x, 99991, 1, 99991L * 113 * 109 - 119L * 118, 113L * 109);
    }

    static void promise24_none() {
        for (int what = 0; what <= 1; what++) {
            due("no wheel, " + what, stockOf().near(1, 1, what), NONE);
            due("one wheel, " + what, stockOf(10).near(1, 1, what), NONE);
        }
        WheelYear x = stockOf(10, 20);
        for (int what : new int[] {-1, 2, Bounds.LEAST, Bounds.MOST}) {
            due("near(1, 2, " + what + ")", x.near(1, 2, what), NONE);
        }
    }

    // ---- Promise 25: "The TRAIN of a HAND becomes NEAREST to a rate: how many PAIRS. -1 (P, Q); -2 (no such HAND; less
    // than two wheels)."

    static void promise25_ratesFrom1To100000() {
        WheelYear x = Bounds.hands(1, 12);
        Bounds.stock(x, 10, 20);
        due("mount(0, 1, 100000)", x.mount(0, 1, MOST_RATE), 1);
        due("driver", x.of(0, 4), 10);
        due("mount(0, 100000, 1)", x.mount(0, MOST_RATE, 1), 1);
        due("driver", x.of(0, 4), 20);
        for (int rate : NO_RATES) {
            due("P " + rate, x.mount(0, rate, 1), -1);
            due("Q " + rate, x.mount(0, 1, rate), -1);
        }
        due("the TRAIN stays", x.of(0, 4), 20);
    }

    static void promise25_noSuchHand() {
        WheelYear x = Bounds.hands(1, 12);
        Bounds.stock(x, 10, 20);
        for (int hand : NO_HANDS) {
            due("mount(" + hand + ", 1, 2)", x.mount(hand, 1, 2), -2);
        }
    }

    static void promise25_lessThanTwoWheels() {
        WheelYear x = handOf(30, 40);
        due("no wheel", x.mount(0, 1, 2), -2);
        x.wheel(10);
        due("one wheel", x.mount(0, 1, 2), -2);
        due("the TRAIN stays", x.of(0, 3), 1);
        due("the TRAIN stays", x.of(0, 4), 30);
        x.wheel(20);
        due("two wheels", x.mount(0, 1, 2), 1);
    }

    static void promise25_cantBeAheadOfNoSuchHand() {
        WheelYear x = new WheelYear();
        due("no HAND, no wheel, P 0", x.mount(0, 0, 1), -1);
        due("no HAND, no wheel, Q 100,001", x.mount(0, 1, MOST_RATE + 1), -1);
        due("refused by -2", x.count(7), 0);
    }

    static void promise25_aFullTrainBecomesTheNewOne() {
        WheelYear x = Bounds.hands(1, 12);
        for (int i = 0; i < 4; i++) {
            x.pair(0, 50, 60);
        }
        Bounds.stock(x, 10, 20, 30, 40);
        due("mount(0, 3, 8)", x.mount(0, 3, 8), 2);
        int[] teeth = {10, 20, 30, 40, NONE, NONE, NONE, NONE};
        for (int i = 0; i < teeth.length; i++) {
            due("of(0, " + (4 + i) + ")", x.of(0, 4 + i), teeth[i]);
        }
        due("RATE", x.rate(0, 1), 8);
        due("mount(0, 1, 2)", x.mount(0, 1, 2), 1);
        due("of(0, 6)", x.of(0, 6), NONE);
        due("RATE", x.rate(0, 1), 2);
    }

    static void promise25_theStockStays() {
        WheelYear x = Bounds.hands(2, 12);
        Bounds.stock(x, 10, 20);
        x.mount(0, 1, 2);
        due("count(1)", x.count(1), 2);
        due("another HAND", x.mount(1, 1, 2), 1);
    }

    static void promise25_leavesOffsetAndGap() {
        WheelYear x = Bounds.hands(1, 12);
        x.put(0, 0, 5);
        x.put(0, 1, 6);
        Bounds.stock(x, 10, 20);
        x.mount(0, 1, 2);
        due("OFFSET", x.of(0, 1), 5);
        due("GAP", x.of(0, 2), 6);
    }
}
