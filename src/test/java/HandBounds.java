/** Bounds of promises 1 to 6, 18 and 19: hands, their trains, what they show. */
final class HandBounds {
    private static final int NONE = Bounds.NONE;
    private static final int LAST = Bounds.LAST;
    private static final int[] NO_HANDS = {-1, 2, 6, -2, Bounds.LEAST, Bounds.MOST};

    private static void due(String call, long got, long want) {
        Bounds.due(call, got, want);
    }

    // ---- Promise 1: "No HANDS, STOCK."

    static void promise01_noHandsNoStock() {
        WheelYear x = new WheelYear();
        due("count(0)", x.count(0), 0);
        due("of(0, 0)", x.of(0, 0), NONE);
        due("count(1)", x.count(1), 0);
        due("teeth(0)", x.teeth(0), NONE);
    }

    static void promise01_noneIsMinusOne() {
        due("NONE", WheelYear.NONE, -1);
    }

    static void promise01_objectsDoNotShare() {
        WheelYear x = Bounds.hands(1, 12);
        x.image(0);
        WheelYear y = new WheelYear();
        due("count(0)", y.count(0), 0);
        due("back(0)", y.back(0), -2);
        due("count(0) of the first", x.count(0), 1);
    }

    // ---- Promise 2: "A HAND (OFFSET 0, no PAIRS): its number. -1; -5."

    static void promise02_marksFrom1To400() {
        WheelYear x = new WheelYear();
        due("hand(1)", x.hand(1), 0);
        due("hand(400)", x.hand(400), 1);
        due("of(0, 0)", x.of(0, 0), 1);
        due("of(1, 0)", x.of(1, 0), 400);
    }

    static void promise02_otherMarksCantBe() {
        WheelYear x = new WheelYear();
        for (int marks : new int[] {0, 401, -1, Bounds.LEAST, Bounds.MOST}) {
            due("hand(" + marks + ")", x.hand(marks), -1);
        }
        due("none was made", x.count(0), 0);
        due("refused by -1", x.count(6), 5);
    }

    static void promise02_sixAtMost() {
        WheelYear x = new WheelYear();
        for (int i = 0; i < 6; i++) {
            due("hand " + i, x.hand(12), i);
        }
        due("the seventh", x.hand(12), -5);
        due("count(0)", x.count(0), 6);
        due("of(6, 0)", x.of(6, 0), NONE);
        due("of(5, 0)", x.of(5, 0), 12);
    }

    static void promise02_cantBeAheadOfNoRoom() {
        WheelYear x = Bounds.hands(6, 12);
        due("hand(0) when full", x.hand(0), -1);
        due("hand(401) when full", x.hand(401), -1);
        due("refused by -5", x.count(8), 0);
    }

    static void promise02_isNewWithOffsetGapPairsNone() {
        WheelYear x = Bounds.hands(1, 9);
        x.put(0, 0, 8);
        x.put(0, 1, 7);
        x.pair(0, 6, 7);
        x.hand(10);
        due("OFFSET", x.of(1, 1), 0);
        due("GAP", x.of(1, 2), 0);
        due("PAIRS", x.of(1, 3), 0);
        due("the first's OFFSET", x.of(0, 1), 8);
    }

    // ---- Promise 3: "OFFSET (what 0), GAP (1) of a HAND: what it was. -1 (below 0, GAP above 9999; OFFSET not below
    // MARKS, too, behind -2); -2."

    static void promise03_offsetUpToMarksLess1() {
        WheelYear x = Bounds.hands(1, 400);
        due("put(0, 0, 399)", x.put(0, 0, 399), 0);
        due("put(0, 0, 0)", x.put(0, 0, 0), 399);
        due("put(0, 0, 1)", x.put(0, 0, 1), 0);
        due("of(0, 1)", x.of(0, 1), 1);
    }

    static void promise03_offsetNotBelowMarksCantBe() {
        WheelYear x = Bounds.hands(1, 12);
        x.put(0, 0, 11);
        for (int offset : new int[] {12, 13, 400, Bounds.MOST}) {
            due("put(0, 0, " + offset + ")", x.put(0, 0, offset), -1);
        }
        due("it stays", x.of(0, 1), 11);
        due("refused by -1", x.count(6), 4);
    }

    static void promise03_aDialOfOneMarkHasOffset0Alone() {
        WheelYear x = Bounds.hands(1, 1);
        due("put(0, 0, 0)", x.put(0, 0, 0), 0);
        due("put(0, 0, 1)", x.put(0, 0, 1), -1);
    }

    static void promise03_offsetBelow0CantBe() {
        WheelYear x = Bounds.hands(1, 12);
        due("put(0, 0, -1)", x.put(0, 0, -1), -1);
        due("put(0, 0, least)", x.put(0, 0, Bounds.LEAST), -1);
        due("it stays", x.of(0, 1), 0);
    }

    static void promise03_gapUpTo9999() {
        WheelYear x = Bounds.hands(1, 2);
        due("put(0, 1, 9999)", x.put(0, 1, 9999), 0);
        due("put(0, 1, 1)", x.put(0, 1, 1), 9999);
        due("put(0, 1, 0)", x.put(0, 1, 0), 1);
        due("of(0, 2)", x.of(0, 2), 0);
    }

    static void promise03_gapBelow0OrAbove9999CantBe() {
        WheelYear x = Bounds.hands(1, 2);
        x.put(0, 1, 5);
        for (int gap : new int[] {-1, 10000, Bounds.LEAST, Bounds.MOST}) {
            due("put(0, 1, " + gap + ")", x.put(0, 1, gap), -1);
        }
        due("it stays", x.of(0, 2), 5);
    }

    static void promise03_noSuchHand() {
        WheelYear x = Bounds.hands(2, 12);
        for (int hand : NO_HANDS) {
            due("put(" + hand + ", 0, 0)", x.put(hand, 0, 0), -2);
            due("put(" + hand + ", 1, 0)", x.put(hand, 1, 0), -2);
        }
    }

    static void promise03_offsetNotBelowMarksIsBehindNoSuchHand() {
        WheelYear x = Bounds.hands(1, 12);
        due("put(1, 0, 12)", x.put(1, 0, 12), -2);
        due("put(1, 0, 400)", x.put(1, 0, 400), -2);
        due("put(1, 0, most)", x.put(1, 0, Bounds.MOST), -2);
    }

    static void promise03_below0AndGapAbove9999AreAheadOfNoSuchHand() {
        WheelYear x = Bounds.hands(1, 12);
        due("put(1, 0, -1)", x.put(1, 0, -1), -1);
        due("put(1, 1, -1)", x.put(1, 1, -1), -1);
        due("put(1, 1, 10000)", x.put(1, 1, 10000), -1);
        due("put(1, 1, 9999)", x.put(1, 1, 9999), -2);
    }

    static void promise03_otherWhatsCantBeAheadOfNoSuchHand() {
        WheelYear x = Bounds.hands(1, 12);
        due("put(0, 2, 0)", x.put(0, 2, 0), -1);
        due("put(0, -1, 0)", x.put(0, -1, 0), -1);
        due("put(1, 2, 0)", x.put(1, 2, 0), -1);
        due("put(1, -1, 0)", x.put(1, -1, 0), -1);
    }

    static void promise03_eachOfTheTwoLeavesTheOther() {
        WheelYear x = Bounds.hands(2, 12);
        x.put(0, 0, 3);
        x.put(0, 1, 4);
        due("OFFSET", x.of(0, 1), 3);
        due("GAP", x.of(0, 2), 4);
        due("the other HAND's OFFSET", x.of(1, 1), 0);
        due("the other HAND's GAP", x.of(1, 2), 0);
    }

    // ---- Promise 4: "A PAIR comes behind the TRAIN of a HAND: how many it has. -1; -2; -5."

    static void promise04_teethFrom6To120() {
        WheelYear x = Bounds.hands(1, 12);
        due("pair(0, 6, 120)", x.pair(0, 6, 120), 1);
        due("pair(0, 120, 6)", x.pair(0, 120, 6), 2);
    }

    static void promise04_otherTeethCantBe() {
        WheelYear x = Bounds.hands(1, 12);
        for (int teeth : new int[] {5, 121, 0, -6, Bounds.LEAST, Bounds.MOST}) {
            due("driver " + teeth, x.pair(0, teeth, 60), -1);
            due("driven " + teeth, x.pair(0, 60, teeth), -1);
        }
        due("none came", x.of(0, 3), 0);
        due("refused by -1", x.count(6), 12);
    }

    static void promise04_fourAtMost() {
        WheelYear x = Bounds.hands(2, 12);
        for (int i = 0; i < 4; i++) {
            due("pair " + i, x.pair(0, 10 + i, 20 + i), i + 1);
        }
        due("the fifth", x.pair(0, 6, 6), -5);
        due("of(0, 3)", x.of(0, 3), 4);
        due("the last is as it was", x.of(0, 10), 13);
        due("the rate is as it was", x.rate(0, 0), 10L * 11 * 12 * 13 / lowest(20L * 21 * 22 * 23, 10L * 11 * 12 * 13));
        due("the other HAND has room", x.pair(1, 6, 6), 1);
    }

    private static long lowest(long a, long b) {
        return b == 0 ? a : lowest(b, a % b);
    }

    static void promise04_noSuchHand() {
        WheelYear x = Bounds.hands(2, 12);
        for (int hand : NO_HANDS) {
            due("pair(" + hand + ", 6, 6)", x.pair(hand, 6, 6), -2);
        }
    }

    static void promise04_cantBeAheadOfNoSuchHandAndNoRoom() {
        WheelYear x = Bounds.hands(1, 12);
        due("no HAND, driver 5", x.pair(1, 5, 6), -1);
        due("no HAND, driven 121", x.pair(1, 6, 121), -1);
        for (int i = 0; i < 4; i++) {
            x.pair(0, 6, 6);
        }
        due("full, driver 121", x.pair(0, 121, 6), -1);
        due("full, driven 5", x.pair(0, 6, 5), -1);
        due("no HAND while another is full", x.pair(1, 6, 6), -2);
    }

    static void promise04_comesBehindTheOthers() {
        WheelYear x = Bounds.hands(1, 12);
        x.pair(0, 10, 20);
        x.pair(0, 30, 40);
        due("first driver", x.of(0, 4), 10);
        due("first driven", x.of(0, 5), 20);
        due("second driver", x.of(0, 6), 30);
        due("second driven", x.of(0, 7), 40);
    }

    // ---- Promise 5: "The TRAIN of a HAND has no PAIRS then: how many it had. -2."

    static void promise05_ofNoPairsItIs0() {
        WheelYear x = Bounds.hands(1, 12);
        due("strip(0)", x.strip(0), 0);
        due("status()", x.status(), 0);
    }

    static void promise05_ofFourPairsItIs4AndThereIsRoomAgain() {
        WheelYear x = Bounds.hands(1, 12);
        for (int i = 0; i < 4; i++) {
            x.pair(0, 7, 11);
        }
        due("strip(0)", x.strip(0), 4);
        due("PAIRS", x.of(0, 3), 0);
        due("strip(0) again", x.strip(0), 0);
        due("RATE", x.rate(0, 0), 1);
        due("RATE", x.rate(0, 1), 1);
        for (int i = 0; i < 4; i++) {
            due("pair", x.pair(0, 8, 9), i + 1);
        }
        due("the first is new", x.of(0, 4), 8);
    }

    static void promise05_leavesOffsetGapAndOtherHands() {
        WheelYear x = Bounds.hands(2, 12);
        x.put(0, 0, 5);
        x.put(0, 1, 6);
        x.pair(0, 6, 7);
        x.pair(1, 8, 9);
        x.strip(0);
        due("OFFSET", x.of(0, 1), 5);
        due("GAP", x.of(0, 2), 6);
        due("the other's PAIRS", x.of(1, 3), 1);
    }

    static void promise05_noSuchHand() {
        WheelYear x = Bounds.hands(2, 12);
        for (int hand : NO_HANDS) {
            due("strip(" + hand + ")", x.strip(hand), -2);
        }
        due("refused by -2", x.count(7), NO_HANDS.length);
    }

    // ---- Promise 6: "Of a HAND MARKS (what 0), OFFSET (1), GAP (2), PAIRS (3), teeth of the driver (4, 6, 8, 10), the
    // driven one (5, 7, 9, 11) of PAIR 0 .. 3. NONE."

    static void promise06_teethOfPairsThatAre() {
        WheelYear x = Bounds.hands(1, 12);
        for (int pairs = 0; pairs <= 4; pairs++) {
            for (int p = 0; p < 4; p++) {
                due("driver of " + p + " among " + pairs, x.of(0, 4 + 2 * p), p < pairs ? 50 + p : NONE);
                due("driven of " + p + " among " + pairs, x.of(0, 5 + 2 * p), p < pairs ? 60 + p : NONE);
            }
            x.pair(0, 50 + pairs, 60 + pairs);
        }
    }

    static void promise06_noneForPairsThatWereStripped() {
        WheelYear x = Bounds.hands(1, 12);
        x.pair(0, 50, 60);
        x.pair(0, 51, 61);
        x.strip(0);
        x.pair(0, 70, 80);
        due("of(0, 5)", x.of(0, 5), 80);
        due("of(0, 6)", x.of(0, 6), NONE);
        due("of(0, 7)", x.of(0, 7), NONE);
    }

    static void promise06_noneForOtherWhats() {
        WheelYear x = Bounds.hands(1, 12);
        for (int i = 0; i < 4; i++) {
            x.pair(0, 50, 60);
        }
        for (int what : new int[] {-1, 12, 13, -4, Bounds.LEAST, Bounds.MOST}) {
            due("of(0, " + what + ")", x.of(0, what), NONE);
        }
    }

    static void promise06_noneForNoSuchHand() {
        WheelYear x = Bounds.hands(2, 12);
        for (int hand : NO_HANDS) {
            for (int what = 0; what <= 11; what++) {
                due("of(" + hand + ", " + what + ")", x.of(hand, what), NONE);
            }
        }
        due("it is not REFUSED", x.count(7), 0);
    }

    // ---- Promise 18: "The RATE of a HAND in lowest terms: upper (what 0), lower number (1). NONE."

    private static void dueRate(WheelYear x, long upper, long lower) {
        due("rate(0, 0)", x.rate(0, 0), upper);
        due("rate(0, 1)", x.rate(0, 1), lower);
    }

    static void promise18_is1WithoutPairs() {
        dueRate(Bounds.hands(1, 12), 1, 1);
    }

    static void promise18_lowestTerms() {
        WheelYear x = Bounds.hands(1, 12);
        x.pair(0, 60, 60);
        dueRate(x, 1, 1);
        x.pair(0, 84, 36);
        dueRate(x, 7, 3);
        x.pair(0, 6, 14);
        dueRate(x, 1, 1);
    }

    static void promise18_fastestAndSlowest() {
        WheelYear x = Bounds.hands(1, 12);
        for (int i = 0; i < 4; i++) {
            x.pair(0, 120, 6);
        }
        dueRate(x, 160000, 1);
        x.strip(0);
        for (int i = 0; i < 4; i++) {
            x.pair(0, 6, 120);
        }
        dueRate(x, 1, 160000);
    }

    static void promise18_largestNumbers() {
        WheelYear x = Bounds.hands(1, 12);
        for (int i = 0; i < 4; i++) {
            x.pair(0, 120, 119);
        }
        dueRate(x, 207360000L, 200533921L);
    }

    static void promise18_none() {
        WheelYear x = Bounds.hands(2, 12);
        due("what 2", x.rate(0, 2), NONE);
        due("what -1", x.rate(0, -1), NONE);
        for (int hand : NO_HANDS) {
            due("rate(" + hand + ", 0)", x.rate(hand, 0), NONE);
            due("rate(" + hand + ", 1)", x.rate(hand, 1), NONE);
        }
    }

    // ---- Promise 19: "On a DAY what a HAND SHOWS (what 0), its whole TURNS modulo 1,000,000 (1), whether it is WRONG
    // (2: 1, 0). NONE."

    static void promise19_onDay0ItShowsItsOffset() {
        WheelYear x = Bounds.hands(1, 12);
        x.pair(0, 120, 7);
        due("shows(0, 0, 0)", x.shows(0, 0, 0), 0);
        x.put(0, 0, 11);
        due("shows(0, 0, 0)", x.shows(0, 0, 0), 11);
        due("shows(0, 0, 1)", x.shows(0, 0, 1), 0);
    }

    static void promise19_daysFrom0To1000000() {
        WheelYear x = Bounds.dayHand();
        due("day 1,000,000", x.shows(0, LAST, 0), 0);
        due("day 999,999", x.shows(0, LAST - 1, 0), 399);
        for (int day : new int[] {-1, LAST + 1, Bounds.LEAST, Bounds.MOST}) {
            for (int what = 0; what <= 2; what++) {
                due("shows(0, " + day + ", " + what + ")", x.shows(0, day, what), NONE);
            }
        }
    }

    static void promise19_turnsModulo1000000() {
        WheelYear x = Bounds.hands(1, 12);
        due("999,999 turns", x.shows(0, LAST - 1, 1), 999999);
        due("1,000,000 turns", x.shows(0, LAST, 1), 0);
        x.pair(0, 120, 6);
        due("20 times 50,000", x.shows(0, 50000, 1), 0);
        due("20 times 50,001", x.shows(0, 50001, 1), 20);
        due("20 times 49,999", x.shows(0, 49999, 1), 999980);
    }

    static void promise19_turnsAreCut() {
        WheelYear x = Bounds.hands(1, 12);
        x.pair(0, 10, 30);
        due("2/3", x.shows(0, 2, 1), 0);
        due("3/3", x.shows(0, 3, 1), 1);
        due("5/3", x.shows(0, 5, 1), 1);
    }

    static void promise19_theMarkIsCutOnceAndGoesAround() {
        WheelYear x = Bounds.hands(1, 10);
        x.pair(0, 7, 70);
        due("9 marks on", x.shows(0, 9, 0), 9);
        due("once around", x.shows(0, 10, 0), 0);
        x.put(0, 0, 9);
        due("behind the OFFSET", x.shows(0, 1, 0), 0);
        x.strip(0);
        x.put(0, 0, 0);
        x.pair(0, 10, 30);
        // 10/3 and 20/3 of a mark: not 3 and twice 3
        due("a third of a turn", x.shows(0, 1, 0), 3);
        due("two thirds of a turn", x.shows(0, 2, 0), 6);
        due("a whole turn", x.shows(0, 3, 0), 0);
    }

    static void promise19_offsetIsAddedBehindTheCut() {
        WheelYear x = Bounds.hands(1, 3);
        x.pair(0, 6, 120);
        x.put(0, 0, 1);
        due("3/20 of a mark and OFFSET 1", x.shows(0, 1, 0), 1);
        due("18/20 of a mark and OFFSET 1", x.shows(0, 6, 0), 1);
        due("21/20 of a mark and OFFSET 1", x.shows(0, 7, 0), 2);
    }

    static void promise19_oneMarkIsAlways0() {
        WheelYear x = Bounds.hands(1, 1);
        x.pair(0, 119, 113);
        due("day 1", x.shows(0, 1, 0), 0);
        due("day 999,999", x.shows(0, LAST - 1, 0), 0);
    }

    static void promise19_exactWithTheLargestNumbers() {
        WheelYear x = Bounds.hands(1, 400);
        for (int i = 0; i < 4; i++) {
            x.pair(0, 120, 119);
        }
        x.put(0, 0, 399);
        long steps = 999999L * 207360000L;
        due("shows", x.shows(0, 999999, 0), (steps * 400 / 200533921L + 399) % 400);
        due("turns", x.shows(0, 999999, 1), steps / 200533921L % 1000000);
    }

    static void promise19_gap0NoToothIsGone() {
        WheelYear x = Bounds.dayHand();
        due("GAP at first", x.of(0, 2), 0);
        due("shows(0, 100, 0)", x.shows(0, 100, 0), 100);
        x.put(0, 1, 50);
        due("with a tooth gone", x.shows(0, 100, 0), 98);
        x.put(0, 1, 0);
        due("with none gone again", x.shows(0, 100, 0), 100);
    }

    static void promise19_aDayIsLostOnTheDayOfTheGap() {
        WheelYear x = Bounds.dayHand();
        x.put(0, 1, 7);
        due("the day ahead of it", x.shows(0, 6, 0), 6);
        due("that day", x.shows(0, 7, 0), 6);
        due("the day behind it", x.shows(0, 8, 0), 7);
        due("the day ahead of the second", x.shows(0, 13, 0), 12);
        due("the second", x.shows(0, 14, 0), 12);
    }

    static void promise19_gap1NeverGoes() {
        WheelYear x = Bounds.dayHand();
        x.put(0, 1, 1);
        x.put(0, 0, 5);
        due("day 1", x.shows(0, 1, 0), 5);
        due("day 1,000,000", x.shows(0, LAST, 0), 5);
        due("turns", x.shows(0, LAST, 1), 0);
    }

    static void promise19_gap9999() {
        WheelYear x = Bounds.hands(1, 12);
        x.put(0, 1, 9999);
        due("day 9,998", x.shows(0, 9998, 1), 9998);
        due("day 9,999", x.shows(0, 9999, 1), 9998);
        due("day 1,000,000", x.shows(0, LAST, 1), LAST - 100);
    }

    static void promise19_wrongIs0WithoutALawInForce() {
        WheelYear x = Bounds.hands(1, 12);
        due("no LAW", x.shows(0, 5, 2), 0);
        Check.law(x, "shows 7");
        due("a LAW that is not in FORCE", x.shows(0, 5, 2), 0);
        x.force(0);
        due("in FORCE", x.shows(0, 5, 2), 1);
    }

    static void promise19_wrongIs0WhenItShouldShowNothing() {
        WheelYear x = Bounds.hands(1, 12);
        Bounds.inForce(x, "shows 7 if day=5;shows 1/0 if day=6");
        due("nothing", x.shows(0, 4, 2), 0);
        due("a number", x.shows(0, 5, 2), 1);
        due("BROKEN", x.shows(0, 6, 2), 0);
    }

    static void promise19_wrongByAnyNumberThatIsNotTheMark() {
        WheelYear x = Bounds.hands(1, 12);
        x.put(0, 0, 7);
        Bounds.inForce(x, "shows 7;shows 19 if day=1;shows 7-12 if day=2;shows 0-1 if day=3;shows 8 if day=4");
        due("the MARK", x.shows(0, 0, 2), 0);
        due("the MARK and MARKS", x.shows(0, 1, 2), 1);
        due("the MARK less MARKS", x.shows(0, 2, 2), 1);
        due("-1 is a number", x.shows(0, 3, 2), 1);
        due("the next MARK", x.shows(0, 4, 2), 1);
    }

    static void promise19_noneForOtherWhatsAndHands() {
        WheelYear x = Bounds.hands(2, 12);
        due("what 3", x.shows(0, 0, 3), NONE);
        due("what -1", x.shows(0, 0, -1), NONE);
        for (int hand : NO_HANDS) {
            for (int what = 0; what <= 2; what++) {
                due("shows(" + hand + ", 0, " + what + ")", x.shows(hand, 0, what), NONE);
            }
        }
    }
}
