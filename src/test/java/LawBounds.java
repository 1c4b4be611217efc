/** Bounds of promises 17, 20, 21 and 26: laws in force, what hands should show, when they are wrong, cams. */
final class LawBounds {
    private static final int NONE = Bounds.NONE;
    private static final int NOTHING = Bounds.NOTHING;
    private static final int LAST = Bounds.LAST;
    private static final int[] NO_HANDS = {-1, 1, 6, -2, Bounds.LEAST, Bounds.MOST};

    private static void due(String call, long got, long want) {
        Bounds.due(call, got, want);
    }

    /** What the text tells of a hand of 12 marks on day 7. */
    private static void says(String text, int want) {
        WheelYear x = Bounds.hands(1, 12);
        Bounds.inForce(x, text);
        due("should by " + text, x.should(0, 7), want);
    }

    // ---- Promise 17: "A LAW is in FORCE (NONE: none): which was. -2."

    static void promise17_noneAtFirst() {
        WheelYear x = new WheelYear();
        due("count(10)", x.count(10), NONE);
        due("force(NONE)", x.force(NONE), NONE);
        due("status()", x.status(), 0);
    }

    static void promise17_eachLawAndNone() {
        WheelYear x = Bounds.hands(1, 12);
        for (int i = 0; i < 6; i++) {
            Check.law(x, "shows " + (40 + i));
        }
        due("force(5)", x.force(5), NONE);
        due("should", x.should(0, 0), 45);
        due("force(0)", x.force(0), 5);
        due("should", x.should(0, 0), 40);
        due("force(NONE)", x.force(NONE), 0);
        due("should", x.should(0, 0), NOTHING);
        due("force(3)", x.force(3), NONE);
        due("force(3) again", x.force(3), 3);
    }

    static void promise17_noSuchLaw() {
        WheelYear x = new WheelYear();
        due("force(0) without any", x.force(0), -2);
        Check.law(x, "shows 1");
        x.force(0);
        for (int law : new int[] {1, 6, -2, Bounds.LEAST, Bounds.MOST}) {
            due("force(" + law + ")", x.force(law), -2);
        }
        due("it stays", x.count(10), 0);
        due("refused by -2", x.count(7), 6);
    }

    // ---- Promise 20: "What a HAND SHOULD show on a DAY (may be below 0). -2,000,000,000: nothing, no such HAND, DAY."

    static void promise20_nothingWithoutALawInForce() {
        WheelYear x = Bounds.hands(1, 12);
        due("no LAW", x.should(0, 0), NOTHING);
        Check.law(x, "shows 1");
        due("none in FORCE", x.should(0, 0), NOTHING);
    }

    static void promise20_nothingWithoutAClauseThatHolds() {
        says("shows 1 if 1=2", NOTHING);
        says("shows 1 if 1=2;shows 2 if day=8", NOTHING);
        says("shows 1/0", NOTHING);
    }

    static void promise20_noSuchHand() {
        WheelYear x = Bounds.hands(1, 12);
        Bounds.inForce(x, "shows 1");
        for (int hand : NO_HANDS) {
            due("should(" + hand + ", 0)", x.should(hand, 0), NOTHING);
        }
        due("it is not REFUSED", x.count(7), 0);
    }

    static void promise20_daysFrom0To1000000() {
        WheelYear x = Bounds.hands(1, 12);
        Bounds.inForce(x, "shows day");
        due("day 0", x.should(0, 0), 0);
        due("day 1,000,000", x.should(0, LAST), LAST);
        for (int day : new int[] {-1, LAST + 1, Bounds.LEAST, Bounds.MOST}) {
            due("should(0, " + day + ")", x.should(0, day), NOTHING);
        }
    }

    static void promise20_mayBeBelow0() {
        says("shows 0-1", -1);
        says("shows 0-10000", -10000);
    }

    static void promise20_upTo1000000000EitherWay() {
        says("shows 10000*10000*10", 1000000000);
        says("shows 0-10000*10000*10", -1000000000);
        says("shows 10000*9999*10+9999*10+9+1", 1000000000);
    }

    static void promise20_beyond1000000000IsBroken() {
        says("shows 10000*10000*10+1", NOTHING);
        says("shows 0-10000*10000*10-1", NOTHING);
        says("shows 1-[0-10000*10000*10]", NOTHING);
        says("shows 31623*31623".replace("31623", "[10000*3+1623]"), NOTHING);
        says("shows [0-1]*10000*10000*10*2", NOTHING);
    }

    static void promise20_aBrokenPartBreaksTheSumThoughItWouldComeBack() {
        says("shows 10000*10000*11/11", NOTHING);
        says("shows [10000*10000*10+1]-1", NOTHING);
        says("shows 0*[10000*10000*11]", NOTHING);
        says("shows 0*[1/0]", NOTHING);
        says("shows 10000*10000*10000*10000*10000", NOTHING);
    }

    static void promise20_beyondInATestIsBroken() {
        says("shows 5 if 10000*10000*10=10000*10000*10", 5);
        says("shows 5 if 10000*10000*10+1>0", NOTHING);
        says("shows 5 if 0<10000*10000*10+1", NOTHING);
        says("shows 5 if 0-10000*10000*10-1<0", NOTHING);
    }

    static void promise20_dividedBy0IsBroken() {
        says("shows 1/0", NOTHING);
        says("shows 1%0", NOTHING);
        says("shows 0/0", NOTHING);
        says("shows 0%0", NOTHING);
        says("shows 1/[7-day]", NOTHING);
        says("shows 1%[7-day]", NOTHING);
        says("shows 1/[8-day]", 1);
        says("shows 5 if 1/0=1", NOTHING);
        says("shows 5 if 1%0=1", NOTHING);
    }

    static void promise20_dividedItIsCutTowards0() {
        says("shows 7/2", 3);
        says("shows [0-7]/2", -3);
        says("shows 7/[0-2]", -3);
        says("shows [0-7]/[0-2]", 3);
        says("shows [0-1]/2", 0);
        says("shows 1/10000", 0);
    }

    static void promise20_whatIsLeftThen() {
        says("shows 7%2", 1);
        says("shows [0-7]%2", -1);
        says("shows 7%[0-2]", 1);
        says("shows [0-7]%[0-2]", -1);
        says("shows 6%2", 0);
        says("shows [0-6]%2", 0);
        says("shows 5%7", 5);
    }

    static void promise20_timesAheadOfPlusAndFromTheLeft() {
        says("shows 2+3*4", 14);
        says("shows 2*3+4", 10);
        says("shows [2+3]*4", 20);
        says("shows 10-4-3", 3);
        says("shows 10-[4-3]", 9);
        says("shows 100/10/5", 2);
        says("shows 100/[10/5]", 50);
        says("shows 7*3/2", 10);
        says("shows 7/2*3", 9);
        says("shows 17%10*2", 14);
    }

    static void promise20_comparisonsAtTheirEdge() {
        says("shows 5 if day<7", NOTHING);
        says("shows 5 if day<8", 5);
        says("shows 5 if day>7", NOTHING);
        says("shows 5 if day>6", 5);
        says("shows 5 if day=7", 5);
        says("shows 5 if day=6", NOTHING);
        says("shows 5 if 0-1<0", 5);
    }

    static void promise20_theLastClauseThatHolds() {
        says("shows 1;shows 2", 2);
        says("shows 1;shows 2 if 1=2", 1);
        says("shows 1;shows 2 if day=7;shows 3 if day=8", 2);
        says("shows 1 if 1=1;shows 2 if 1=2", 1);
        says("shows 1 if 1=2;shows 2", 2);
    }

    static void promise20_theTwelfthClauseHolds() {
        says("shows 1;".repeat(11) + "shows 2", 2);
        says("shows 1;".repeat(11) + "shows 2 if 1=2", 1);
        says("shows 1" + ";shows 2 if 1=2".repeat(11), 1);
    }

    static void promise20_aClauseWhoseSumIsBrokenDoesNotHold() {
        says("shows 1;shows 1/0", 1);
        says("shows 1;shows 1/0 if 1=1", 1);
        says("shows 1;shows 10000*10000*11", 1);
        says("shows 1;shows 2;shows 3%0", 2);
    }

    static void promise20_aClauseWhoseTestIsBrokenDoesNotHold() {
        says("shows 1;shows 2 if 1/0=1", 1);
        says("shows 1;shows 2 if not 1/0=1", 1);
        says("shows 1;shows 2 if 10000*10000*11>1", 1);
    }

    static void promise20_orAsksOnlyIfItCanStillMatter() {
        says("shows 5 if 1=1 or 1/0=1", 5);
        says("shows 5 if 1=2 or 1/0=1", NOTHING);
        says("shows 5 if 1/0=1 or 1=1", NOTHING);
        says("shows 5 if 1=2 or 1=1 or 1/0=1", 5);
        says("shows 5 if 1=1 or 1=2 and 1/0=1", 5);
        says("shows 5 if 1=2 or 1=2", NOTHING);
        says("shows 5 if 1=2 or 1=1", 5);
    }

    static void promise20_andAsksOnlyIfItCanStillMatter() {
        says("shows 5 if not (1=2 and 1/0=1)", 5);
        says("shows 5 if 1=2 and 1/0=1 or 1=1", 5);
        says("shows 5 if 1=1 and 1/0=1 or 1=1", NOTHING);
        says("shows 5 if 1/0=1 and 1=2 or 1=1", NOTHING);
        says("shows 5 if 1=1 and 1=2 and 1/0=1 or 1=1", 5);
        says("shows 5 if 1=1 and 1=1", 5);
        says("shows 5 if 1=1 and 1=2", NOTHING);
    }

    static void promise20_andBindsCloserThanOrNotClosest() {
        says("shows 5 if 1=1 or 1=1 and 1=2", 5);
        says("shows 5 if (1=1 or 1=1) and 1=2", NOTHING);
        says("shows 5 if not 1=2 and 1=2", NOTHING);
        says("shows 5 if not 1=1 or 1=1", 5);
        says("shows 5 if not (1=1 or 1=1)", NOTHING);
        says("shows 5 if not not 1=1", 5);
    }

    static void promise20_bracketsEightDeep() {
        says("shows [[[[[[[[7]]]]]]]]", 7);
        says("shows 1+[1+[1+[1+[1+[1+[1+[1+[1]]]]]]]]", 9);
        says("shows 2*[1+2*[1+2*[1+2*[1+2*[1+2*[1+2*[1+2*[1]]]]]]]]", 510);
        says("shows 5 if 176+1-2*[1-2*[1-2*[1]]]=1-2*[1-2*[1-2*[1-2*[1-2*[1-2*[1-2*[1-2*[1]]]]]]]]", 5);
        says("shows 5 if not (not (not (not (not (not (not (not (day=7))))))))", 5);
    }

    static void promise20_numbersTo10000() {
        says("shows 10000", 10000);
        says("shows 0", 0);
        says("shows 00010000", 10000);
        says("shows " + "0".repeat(389) + "10000", 10000);
    }

    static void promise20_fiftyParts() {
        says("shows 1" + "+1".repeat(49), 50);
        says("shows 10000" + "+10000".repeat(49), 500000);
    }

    static void promise20_wordsTellOfTheHandThatIsAsked() {
        WheelYear x = Bounds.hands(5, 3);
        x.hand(400);
        x.put(5, 0, 399);
        String[] texts = {"shows hand", "shows marks", "shows offset"};
        int[] want = {5, 400, 399};
        int[] wantOfFirst = {0, 3, 0};
        for (int i = 0; i < texts.length; i++) {
            Bounds.inForce(x, texts[i]);
            due(texts[i] + " of HAND 5", x.should(5, 3), want[i]);
            due(texts[i] + " of HAND 0", x.should(0, 3), wantOfFirst[i]);
        }
    }

    static void promise20_turnModulo1000000() {
        WheelYear x = Bounds.hands(1, 12);
        Bounds.inForce(x, "shows turn");
        due("999,999 turns", x.should(0, LAST - 1), LAST - 1);
        due("1,000,000 turns", x.should(0, LAST), 0);
        x.put(0, 1, 10);
        due("by the days that it has gone", x.should(0, 10), 9);
        x.put(0, 1, 0);
        x.pair(0, 10, 30);
        due("whole ones", x.should(0, 5), 1);
    }

    // ---- Promise 21: "The first DAY from .. to (to less from 0 .. 5,000) on which a HAND is WRONG (what 0), on how many it
    // is (1). NONE (never, for 0)."

    private static WheelYear wrongOn(String test) {
        WheelYear x = Bounds.hands(1, 12);
        Bounds.inForce(x, "shows 1 if " + test);
        return x;
    }

    static void promise21_oneDay() {
        WheelYear x = wrongOn("day=10");
        due("wrong(0, 10, 10, 0)", x.wrong(0, 10, 10, 0), 10);
        due("wrong(0, 10, 10, 1)", x.wrong(0, 10, 10, 1), 1);
        due("wrong(0, 11, 11, 0)", x.wrong(0, 11, 11, 0), NONE);
        due("wrong(0, 11, 11, 1)", x.wrong(0, 11, 11, 1), 0);
    }

    static void promise21_5000DaysLaterAtMost() {
        WheelYear x = wrongOn("day>0");
        due("5,000", x.wrong(0, 7, 5007, 1), 5001);
        due("5,000", x.wrong(0, 7, 5007, 0), 7);
        due("5,001", x.wrong(0, 7, 5008, 1), NONE);
        due("5,001", x.wrong(0, 7, 5008, 0), NONE);
        due("0 to 1,000,000", x.wrong(0, 0, LAST, 1), NONE);
    }

    static void promise21_toAheadOfFrom() {
        WheelYear x = wrongOn("1=1");
        due("wrong(0, 5, 4, 0)", x.wrong(0, 5, 4, 0), NONE);
        due("wrong(0, 5, 4, 1)", x.wrong(0, 5, 4, 1), NONE);
        due("wrong(0, 1000000, 0, 1)", x.wrong(0, LAST, 0, 1), NONE);
    }

    static void promise21_bothAreDays() {
        WheelYear x = wrongOn("1=1");
        due("from 0", x.wrong(0, 0, 0, 1), 1);
        due("to 1,000,000", x.wrong(0, LAST, LAST, 0), LAST);
        due("5,000 up to 1,000,000", x.wrong(0, LAST - 5000, LAST, 1), 5001);
        due("from -1", x.wrong(0, -1, 5, 1), NONE);
        due("from -1 to -1", x.wrong(0, -1, -1, 1), NONE);
        due("to 1,000,001", x.wrong(0, LAST, LAST + 1, 1), NONE);
        due("from 1,000,001", x.wrong(0, LAST + 1, LAST + 1, 1), NONE);
        due("least to most", x.wrong(0, Bounds.LEAST, Bounds.MOST, 1), NONE);
        due("most to least", x.wrong(0, Bounds.MOST, Bounds.LEAST, 1), NONE);
    }

    static void promise21_theFirstAndTheLastDayCount() {
        WheelYear x = wrongOn("day=10 or day=20");
        due("first", x.wrong(0, 10, 20, 0), 10);
        due("how many", x.wrong(0, 10, 20, 1), 2);
        due("behind the first", x.wrong(0, 11, 20, 0), 20);
        due("behind the first", x.wrong(0, 11, 20, 1), 1);
        due("ahead of the last", x.wrong(0, 11, 19, 0), NONE);
        due("ahead of the last", x.wrong(0, 11, 19, 1), 0);
    }

    static void promise21_neverIsNoneFor0And0For1() {
        WheelYear x = Bounds.hands(1, 12);
        due("without a LAW, 0", x.wrong(0, 0, 5000, 0), NONE);
        due("without a LAW, 1", x.wrong(0, 0, 5000, 1), 0);
        Bounds.inForce(x, "shows 0");
        due("as it SHOULD, 0", x.wrong(0, 0, 5000, 0), NONE);
        due("as it SHOULD, 1", x.wrong(0, 0, 5000, 1), 0);
    }

    static void promise21_noneForOtherWhatsAndHands() {
        WheelYear x = wrongOn("1=1");
        due("what 2", x.wrong(0, 0, 1, 2), NONE);
        due("what -1", x.wrong(0, 0, 1, -1), NONE);
        for (int hand : NO_HANDS) {
            due("wrong(" + hand + ", 0, 1, 0)", x.wrong(hand, 0, 1, 0), NONE);
            due("wrong(" + hand + ", 0, 1, 1)", x.wrong(hand, 0, 1, 1), NONE);
        }
    }

    // ---- Promise 26: "A CAM for a HAND by DAYS 0 .. n: its length. NONE." and "the least length 1 .. 99 so that on all
    // DAYS 0 .. n (99 .. 2,000) it SHOULD show something, and the same on each as so many DAYS ahead"

    private static WheelYear byLaw(String text) {
        WheelYear x = Bounds.hands(1, 12);
        Bounds.inForce(x, text);
        return x;
    }

    static void promise26_nFrom99To2000() {
        WheelYear x = byLaw("shows 3");
        due("cam(0, 99)", x.cam(0, 99), 1);
        due("cam(0, 2000)", x.cam(0, 2000), 1);
        for (int n : new int[] {98, 2001, 0, -1, Bounds.LEAST, Bounds.MOST}) {
            due("cam(0, " + n + ")", x.cam(0, n), NONE);
        }
    }

    static void promise26_length1() {
        due("always alike", byLaw("shows 3").cam(0, 300), 1);
    }

    static void promise26_length99AtMost() {
        due("99 DAYS", byLaw("shows day%99").cam(0, 2000), 99);
        due("100 DAYS", byLaw("shows day%100").cam(0, 2000), NONE);
        due("99 DAYS by DAYS 0 .. 99", byLaw("shows day%99").cam(0, 99), 99);
        due("100 DAYS by DAYS 0 .. 99", byLaw("shows day%100").cam(0, 99), NONE);
    }

    static void promise26_theLeastLength() {
        due("6 DAYS, not 12", byLaw("shows day%6").cam(0, 500), 6);
        due("2 and 3 DAYS", byLaw("shows day%2*10+day%3").cam(0, 500), 6);
    }

    static void promise26_aDayWithNothing() {
        due("day 0", byLaw("shows 3 if day>0").cam(0, 99), NONE);
        due("day n", byLaw("shows 3 if not day=150").cam(0, 150), NONE);
        due("behind day n", byLaw("shows 3 if not day=151").cam(0, 150), 1);
        due("a BROKEN day", byLaw("shows 3/[50-day]*0").cam(0, 99), NONE);
    }

    static void promise26_theLastDayCounts() {
        due("day n", byLaw("shows 3;shows 4 if day=150").cam(0, 150), NONE);
        due("behind day n", byLaw("shows 3;shows 4 if day=151").cam(0, 150), 1);
        due("day 2,000", byLaw("shows 3;shows 4 if day=2000").cam(0, 2000), NONE);
        due("day 2,001", byLaw("shows 3;shows 4 if day=2001").cam(0, 2000), 1);
    }

    static void promise26_theFirstDayCounts() {
        due("day 0", byLaw("shows 3;shows 4 if day=0").cam(0, 150), NONE);
        due("day 0 and 99", byLaw("shows 3;shows 4 if day%99=0").cam(0, 150), 99);
    }

    static void promise26_isNotAskedBehindDayN() {
        due("60 alike ahead, 40 behind", byLaw("shows day/60").cam(0, 99), NONE);
        due("what differs behind n does not matter", byLaw("shows 3;shows 4 if day=96").cam(0, 99), 97);
    }

    static void promise26_belowZeroIsSomething() {
        due("-1", byLaw("shows 0-1").cam(0, 99), 1);
        due("-1,000,000,000", byLaw("shows 0-10000*10000*10").cam(0, 99), 1);
    }

    static void promise26_noneWithoutLawOrHand() {
        WheelYear x = Bounds.hands(1, 12);
        due("no LAW", x.cam(0, 99), NONE);
        Bounds.inForce(x, "shows 3");
        for (int hand : NO_HANDS) {
            due("cam(" + hand + ", 99)", x.cam(hand, 99), NONE);
        }
    }
}
