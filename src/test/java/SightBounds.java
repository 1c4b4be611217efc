/** Bounds of promises 27 to 31: sights, what is inside, where a tooth is gone, when two hands show told marks. */
final class SightBounds {
    private static final int NONE = Bounds.NONE;
    private static final int LAST = Bounds.LAST;
    private static final int[] NO_HANDS = {-1, 2, 6, -2, Bounds.LEAST, Bounds.MOST};

    private static void due(String call, long got, long want) {
        Bounds.due(call, got, want);
    }

    // ---- Promise 27: "A SIGHT: how many there are. -1 (DAY, MARK below 0 or not below MARKS, the latter behind -2); -2;
    // -5."

    static void promise27_tenAtMostOfAllHands() {
        WheelYear x = Bounds.hands(2, 12);
        for (int i = 0; i < 10; i++) {
            due("sight " + i, x.sight(i % 2, i, i), i + 1);
        }
        due("the 11th", x.sight(0, 0, 0), -5);
        due("the 11th of the other", x.sight(1, 0, 0), -5);
        due("count(3)", x.count(3), 10);
    }

    static void promise27_daysFrom0To1000000() {
        WheelYear x = Bounds.hands(1, 12);
        due("day 0", x.sight(0, 0, 0), 1);
        due("day 1,000,000", x.sight(0, LAST, 0), 2);
        for (int day : new int[] {-1, LAST + 1, Bounds.LEAST, Bounds.MOST}) {
            due("sight(0, " + day + ", 0)", x.sight(0, day, 0), -1);
        }
        due("count(3)", x.count(3), 2);
    }

    static void promise27_marksFrom0ToMarksLess1() {
        WheelYear x = Bounds.hands(1, 12);
        due("mark 0", x.sight(0, 0, 0), 1);
        due("mark 11", x.sight(0, 0, 11), 2);
        for (int mark : new int[] {-1, 12, 400, Bounds.LEAST, Bounds.MOST}) {
            due("sight(0, 0, " + mark + ")", x.sight(0, 0, mark), -1);
        }
        due("count(3)", x.count(3), 2);
    }

    static void promise27_aDialOfOneMark() {
        WheelYear x = Bounds.hands(1, 1);
        due("mark 0", x.sight(0, 0, 0), 1);
        due("mark 1", x.sight(0, 0, 1), -1);
    }

    static void promise27_noSuchHand() {
        WheelYear x = Bounds.hands(2, 12);
        for (int hand : NO_HANDS) {
            due("sight(" + hand + ", 0, 0)", x.sight(hand, 0, 0), -2);
        }
    }

    static void promise27_dayAndMarkBelow0AreAheadOfNoSuchHand() {
        WheelYear x = Bounds.hands(1, 12);
        due("day -1", x.sight(1, -1, 0), -1);
        due("day 1,000,001", x.sight(1, LAST + 1, 0), -1);
        due("mark -1", x.sight(1, 0, -1), -1);
    }

    static void promise27_markNotBelowMarksIsBehindNoSuchHand() {
        WheelYear x = Bounds.hands(1, 12);
        due("mark 12", x.sight(1, 0, 12), -2);
        due("mark 400", x.sight(1, 0, 400), -2);
        due("mark most", x.sight(1, 0, Bounds.MOST), -2);
    }

    static void promise27_noRoomIsBehindAllOthers() {
        WheelYear x = Bounds.hands(1, 12);
        for (int i = 0; i < 10; i++) {
            x.sight(0, 0, 0);
        }
        due("day -1", x.sight(0, -1, 0), -1);
        due("mark -1", x.sight(0, 0, -1), -1);
        due("mark 12", x.sight(0, 0, 12), -1);
        due("no HAND", x.sight(1, 0, 0), -2);
        due("no HAND, mark 12", x.sight(1, 0, 12), -2);
        due("refused by -5", x.count(8), 0);
        due("one that can be", x.sight(0, 0, 0), -5);
    }

    // ---- Promise 28: "SIGHTS are none then: how many there were."

    static void promise28_ofNoneItIs0() {
        WheelYear x = Bounds.hands(1, 12);
        due("forget()", x.forget(), 0);
        due("forget()", x.forget(), 0);
    }

    static void promise28_thereIsRoomAgain() {
        WheelYear x = Bounds.hands(1, 12);
        for (int i = 0; i < 10; i++) {
            x.sight(0, 0, 0);
        }
        due("forget()", x.forget(), 10);
        due("count(3)", x.count(3), 0);
        due("sight", x.sight(0, 0, 0), 1);
    }

    static void promise28_whatWasForgottenIsNotAsked() {
        WheelYear x = Bounds.hands(1, 12);
        x.sight(0, 0, 1);
        due("GONE", x.gone(0, 0), 0);
        x.forget();
        due("GONE", x.gone(0, 0), 399);
    }

    // ---- Promise 29: "INSIDE of a HAND: how many (what 0), PAIRS of the first (1), its OFFSET (2), its wheels (3 .. 6).
    // NONE (none, for 1 .. 6; there are not so many)."

    private static WheelYear seen(int marks, int... teeth) {
        WheelYear x = Bounds.hands(2, marks);
        Bounds.stock(x, teeth);
        return x;
    }

    /** How many are due, and of the first its offset and its wheels; those that it has not are NONE. */
    private static void dueInside(WheelYear x, int howMany, int offset, int... wheels) {
        due("inside(0, 0)", x.inside(0, 0), howMany);
        due("inside(0, 1)", x.inside(0, 1), wheels.length == 0 ? NONE : wheels.length / 2);
        due("inside(0, 2)", x.inside(0, 2), offset);
        for (int i = 0; i < 4; i++) {
            due("inside(0, " + (3 + i) + ")", x.inside(0, 3 + i), i < wheels.length ? wheels[i] : NONE);
        }
    }

    static void promise29_noneFor1To6IfThereIsNone() {
        WheelYear x = seen(12, 10, 20, 30, 40);
        x.sight(0, 0, 3);
        x.sight(0, 0, 4);
        dueInside(x, 0, NONE);
    }

    static void promise29_lessThanTwoWheels() {
        dueInside(seen(12), 0, NONE);
        dueInside(seen(12, 10), 0, NONE);
        WheelYear x = seen(12, 10);
        x.sight(0, 0, 0);
        dueInside(x, 0, NONE);
    }

    static void promise29_withoutSightsEachRowAndOffset() {
        dueInside(seen(12, 10, 20), 2 * 12, 0, 0, 1);
        dueInside(seen(12, 10, 20, 30), 6 * 12, 0, 0, 1);
        dueInside(seen(12, 10, 20, 30, 40), (12 + 24) * 12, 0, 0, 1);
        dueInside(seen(1, 10, 20), 2, 0, 0, 1);
        WheelYear full = seen(400, 6, 7, 8, 9, 10, 11, 12, 13, 14, 15, 16, 17);
        dueInside(full, (12 * 11 + 12 * 11 * 10 * 9) * 400, 0, 0, 1);
    }

    static void promise29_thereAreNotSoManyWheelsInOnePair() {
        WheelYear x = seen(12, 10, 20);
        x.sight(0, 0, 7);
        dueInside(x, 2, 7, 0, 1);
    }

    static void promise29_twoPairsWhereOneCant() {
        WheelYear x = seen(400, 10, 20, 30, 40);
        // 150 marks a day: 10/20 times 30/40 alone, in four rows
        x.sight(0, 0, 5);
        x.sight(0, 1, 155);
        dueInside(x, 4, 5, 0, 1, 2, 3);
    }

    static void promise29_fewerPairsAheadOfOffset() {
        WheelYear x = seen(400, 10, 20, 30, 40);
        // by 10/30 times 20/40 OFFSET would be 0, by one PAIR it is 66 at least
        x.sight(0, 1, 66);
        dueInside(x, 36, 66, 1, 0);
    }

    static void promise29_offsetAheadOfTheRow() {
        WheelYear x = seen(8, 10, 20, 40);
        // 10/20 has OFFSET 2, 10/40 has 4, the others 6
        x.sight(0, 1, 6);
        dueInside(x, 6, 2, 0, 1);
        x.forget();
        // 10/20 has OFFSET 7, 10/40 has 1, 20/10 has 3
        x.sight(0, 1, 3);
        dueInside(x, 6, 1, 0, 2);
        x.forget();
        // whole turns have OFFSET 0: 20/10 is the first of them
        x.sight(0, 1, 0);
        dueInside(x, 6, 0, 1, 0);
    }

    static void promise29_theFirstRowOfTheSameOffset() {
        WheelYear x = seen(8, 20, 10, 10, 20);
        x.sight(0, 1, 4);
        // a half is 10/20: wheels 1 and 0 are the first
        dueInside(x, 36, 0, 1, 0);
    }

    static void promise29_ownGapTrainOffsetAside() {
        WheelYear x = seen(8, 10, 20);
        x.put(0, 0, 7);
        x.put(0, 1, 2);
        x.pair(0, 6, 7);
        x.sight(0, 2, 0);
        x.sight(0, 3, 4);
        dueInside(x, 1, 0, 0, 1);
    }

    static void promise29_itsOwnSightsAlone() {
        WheelYear x = seen(8, 10, 20);
        x.sight(1, 0, 3);
        x.sight(1, 0, 4);
        dueInside(x, 2 * 8, 0, 0, 1);
        due("of the other", x.inside(1, 0), 0);
    }

    static void promise29_tenSightsAndDay1000000() {
        WheelYear x = seen(400, 7, 64);
        for (int i = 0; i < 9; i++) {
            x.sight(0, LAST, (int) (1000000L * 7 * 400 / 64 % 400));
        }
        // one DAY gives each of both rows an OFFSET: 0 for 7/64, 343 for 64/7
        dueInside(x, 2, 0, 0, 1);
        x.sight(0, 0, 0);
        dueInside(x, 1, 0, 0, 1);
    }

    static void promise29_theTenthSightCounts() {
        WheelYear x = seen(12, 10, 20);
        for (int i = 0; i < 9; i++) {
            x.sight(0, 0, 3);
        }
        due("nine", x.inside(0, 0), 2);
        x.sight(0, 0, 4);
        due("ten", x.inside(0, 0), 0);
    }

    static void promise29_noneForOtherWhatsAndHands() {
        WheelYear x = seen(12, 10, 20, 30, 40);
        due("what 7", x.inside(0, 7), NONE);
        due("what -1", x.inside(0, -1), NONE);
        for (int hand : NO_HANDS) {
            for (int what = 0; what <= 6; what++) {
                due("inside(" + hand + ", " + what + ")", x.inside(hand, what), NONE);
            }
        }
    }

    // ---- Promise 30: "GONE: how many GAPS (what 0), the least (1). NONE (none, for 1)." and "GAPS 2 .. 400 by which the
    // HAND as told would show all its SIGHTS"

    private static void dueGone(WheelYear x, int howMany, int least) {
        due("gone(0, 0)", x.gone(0, 0), howMany);
        due("gone(0, 1)", x.gone(0, 1), least);
    }

    static void promise30_withoutSightsEachGap() {
        dueGone(Bounds.dayHand(), 399, 2);
        dueGone(Bounds.hands(1, 1), 399, 2);
    }

    static void promise30_gap2AndNotGap1() {
        WheelYear x = Bounds.dayHand();
        x.sight(0, 2, 1);
        dueGone(x, 1, 2);
        x.forget();
        x.sight(0, 1, 0);
        dueGone(x, 0, NONE);
    }

    static void promise30_gap400AndNotGap401() {
        WheelYear x = Bounds.dayHand();
        x.sight(0, 399, 399);
        x.sight(0, 400, 399);
        dueGone(x, 1, 400);
        x.forget();
        x.sight(0, 400, 0);
        x.sight(0, 401, 0);
        dueGone(x, 0, NONE);
    }

    static void promise30_gap0IsNone() {
        WheelYear x = Bounds.dayHand();
        x.sight(0, 2, 2);
        x.sight(0, 399, 399);
        x.sight(0, 800, 0);
        dueGone(x, 0, NONE);
    }

    static void promise30_theHandsOwnGapAside() {
        WheelYear x = Bounds.dayHand();
        x.sight(0, 8, 7);
        dueGone(x, 4, 5);
        x.put(0, 1, 3);
        dueGone(x, 4, 5);
    }

    static void promise30_theHandsOwnTrainAndOffset() {
        WheelYear x = Bounds.dayHand();
        x.sight(0, 8, 7);
        x.put(0, 0, 1);
        // the day's mark is 9 less what is lost: 2 are lost
        dueGone(x, 2, 3);
        x.strip(0);
        dueGone(x, 0, NONE);
    }

    static void promise30_itsOwnSightsAlone() {
        WheelYear x = Bounds.dayHand();
        x.hand(12);
        x.sight(1, 0, 5);
        dueGone(x, 399, 2);
        due("of the other", x.gone(1, 0), 0);
        due("of the other", x.gone(1, 1), NONE);
    }

    static void promise30_noneForOtherWhatsAndHands() {
        WheelYear x = Bounds.hands(2, 12);
        due("what 2", x.gone(0, 2), NONE);
        due("what -1", x.gone(0, -1), NONE);
        for (int hand : NO_HANDS) {
            due("gone(" + hand + ", 0)", x.gone(hand, 0), NONE);
            due("gone(" + hand + ", 1)", x.gone(hand, 1), NONE);
        }
    }

    // ---- Promise 31: "TOGETHER: the DAY from a told one on (to 5,000 DAYS later, 1,000,000 at most). NONE."

    /** Two hands that tell the day: modulo 400 the one, its four hundreds the other. */
    private static WheelYear dayHands() {
        WheelYear x = Bounds.dayHand();
        x.hand(400);
        for (int i = 0; i < 4; i++) {
            x.pair(1, 6, 120);
        }
        return x;
    }

    private static int whenIsDay(WheelYear x, int day, int from) {
        return x.together(0, day % 400, 1, day / 400 % 400, from);
    }

    static void promise31_fromTheToldDayOn() {
        WheelYear x = dayHands();
        due("that day itself", whenIsDay(x, 1234, 1234), 1234);
        due("the day ahead of it", whenIsDay(x, 1234, 1235), NONE);
        due("day 0", whenIsDay(x, 0, 0), 0);
    }

    static void promise31_5000DaysLaterAtMost() {
        WheelYear x = dayHands();
        due("5,000 later", whenIsDay(x, 5000, 0), 5000);
        due("5,001 later", whenIsDay(x, 5001, 0), NONE);
        due("5,000 later", whenIsDay(x, 5001, 1), 5001);
        due("5,000 later", whenIsDay(x, 12345, 7345), 12345);
        due("5,001 later", whenIsDay(x, 12345, 7344), NONE);
    }

    static void promise31_day1000000AtMost() {
        WheelYear x = dayHands();
        due("5,000 later", whenIsDay(x, LAST, LAST - 5000), LAST);
        due("from it", whenIsDay(x, LAST, LAST), LAST);
        due("5,001 later", whenIsDay(x, LAST, LAST - 5001), NONE);
        due("the day behind it", whenIsDay(x, LAST + 1, LAST - 4999), NONE);
        due("the day behind it", whenIsDay(x, LAST + 1, LAST), NONE);
    }

    static void promise31_theFirst() {
        WheelYear x = Bounds.dayHand();
        x.hand(400);
        due("first", x.together(0, 17, 1, 0, 0), 17);
        due("first behind it", x.together(0, 17, 1, 0, 18), 417);
    }

    static void promise31_bothMustShowTheirs() {
        WheelYear x = Bounds.hands(2, 12);
        x.put(1, 0, 3);
        due("both", x.together(0, 0, 1, 3, 5), 5);
        due("the first alone", x.together(0, 0, 1, 4, 5), NONE);
        due("the second alone", x.together(0, 1, 1, 3, 5), NONE);
    }

    static void promise31_fromIsADay() {
        WheelYear x = Bounds.hands(2, 12);
        due("from 0", x.together(0, 0, 1, 0, 0), 0);
        due("from 1,000,000", x.together(0, 0, 1, 0, LAST), LAST);
        for (int from : new int[] {-1, LAST + 1, Bounds.LEAST, Bounds.MOST}) {
            due("from " + from, x.together(0, 0, 1, 0, from), NONE);
        }
    }

    static void promise31_marksThatAreNotOnTheDial() {
        WheelYear x = dayHands();
        for (int mark : new int[] {-1, 400, Bounds.LEAST, Bounds.MOST}) {
            due("mark " + mark, x.together(0, mark, 1, 0, 0), NONE);
            due("other mark " + mark, x.together(0, 0, 1, mark, 0), NONE);
        }
    }

    static void promise31_noSuchHand() {
        WheelYear x = Bounds.hands(2, 12);
        for (int hand : NO_HANDS) {
            due("together(" + hand + ", ..)", x.together(hand, 0, 1, 0, 0), NONE);
            due("together(.., " + hand + ", ..)", x.together(0, 0, hand, 0, 0), NONE);
        }
    }

    static void promise31_withTheirGaps() {
        WheelYear x = dayHands();
        x.put(0, 1, 10);
        due("mark 9 on days 9 and 10", x.together(0, 9, 1, 0, 10), 10);
        due("not on day 11", x.together(0, 9, 1, 0, 11), NONE);
    }
}
