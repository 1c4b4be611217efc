/** Bounds of promises 32 to 36: knobs, setting two hands, wear, wheels that are shared. */
final class KnobBounds {
    private static final int NONE = Bounds.NONE;
    private static final int LAST = Bounds.LAST;
    private static final int[] NO_HANDS = {-1, 2, 6, -2, Bounds.LEAST, Bounds.MOST};

    private static void due(String call, long got, long want) {
        Bounds.due(call, got, want);
    }

    private static void addKnobs(WheelYear x, int howMany) {
        for (int k = 0; k < howMany; k++) {
            x.knob();
        }
    }

    // ---- Promise 32: "A KNOB: its number. -5."

    static void promise32_fourAtMost() {
        WheelYear x = new WheelYear();
        for (int k = 0; k < 4; k++) {
            due("knob " + k, x.knob(), k);
        }
        due("the fifth", x.knob(), -5);
        due("count(4)", x.count(4), 4);
        due("refused by -5", x.count(8), 1);
    }

    // ---- Promise 33: "By how many MARKS a KNOB pushes a HAND: how many it did. -1; -2."

    static void promise33_0AtFirst() {
        WheelYear x = Bounds.hands(6, 12);
        addKnobs(x, 4);
        for (int k = 0; k < 4; k++) {
            for (int h = 0; h < 6; h++) {
                due("push(" + k + ", " + h + ", 1)", x.push(k, h, 1), 0);
            }
        }
    }

    static void promise33_eachKnobAndHandOnItsOwn() {
        WheelYear x = Bounds.hands(6, 12);
        addKnobs(x, 4);
        for (int i = 0; i < 24; i++) {
            x.push(i / 6, i % 6, i % 10);
        }
        for (int i = 0; i < 24; i++) {
            due("push(" + i / 6 + ", " + i % 6 + ", 0)", x.push(i / 6, i % 6, 0), i % 10);
        }
    }

    static void promise33_marksFrom0To9() {
        WheelYear x = Bounds.hands(1, 12);
        x.knob();
        due("push(0, 0, 9)", x.push(0, 0, 9), 0);
        due("push(0, 0, 0)", x.push(0, 0, 0), 9);
        due("push(0, 0, 5)", x.push(0, 0, 5), 0);
        for (int marks : new int[] {-1, 10, Bounds.LEAST, Bounds.MOST}) {
            due("push(0, 0, " + marks + ")", x.push(0, 0, marks), -1);
        }
        due("it stays", x.push(0, 0, 5), 5);
    }

    static void promise33_moreMarksThanTheDialHas() {
        WheelYear x = Bounds.hands(2, 2);
        x.knob();
        due("push(0, 0, 9)", x.push(0, 0, 9), 0);
        due("push(0, 0, 9)", x.push(0, 0, 9), 9);
        due("9 are 1 on two MARKS", x.set(0, 1, 1, 0, 0, 0), 1);
    }

    static void promise33_noSuchKnobOrHand() {
        WheelYear x = Bounds.hands(2, 12);
        due("no KNOB at all", x.push(0, 0, 1), -2);
        addKnobs(x, 3);
        for (int knob : new int[] {-1, 3, 4, Bounds.LEAST, Bounds.MOST}) {
            due("push(" + knob + ", 0, 1)", x.push(knob, 0, 1), -2);
        }
        for (int hand : NO_HANDS) {
            due("push(0, " + hand + ", 1)", x.push(0, hand, 1), -2);
        }
        due("it pushes none", x.push(0, 0, 0), 0);
    }

    static void promise33_cantBeAheadOfNoSuch() {
        WheelYear x = Bounds.hands(1, 12);
        due("no KNOB, 10", x.push(0, 0, 10), -1);
        x.knob();
        due("no HAND, -1", x.push(0, 1, -1), -1);
        due("no HAND, 9", x.push(0, 1, 9), -2);
    }

    // ---- Promise 34: "SET two HANDS on a DAY to told MARKS: how many pushes (what 0), how many of KNOB 0 .. 3 (1 .. 4).
    // NONE (the same HAND; MARKS that are not on them; it can't be; no such KNOB)."

    /** Two hands of so many marks and knobs that push them by so much, two numbers a knob. */
    private static WheelYear withKnobs(int marks, int otherMarks, int... by) {
        WheelYear x = new WheelYear();
        x.hand(marks);
        x.hand(otherMarks);
        for (int i = 0; i < by.length; i += 2) {
            x.knob();
            x.push(i / 2, 0, by[i]);
            x.push(i / 2, 1, by[i + 1]);
        }
        return x;
    }

    /** What is due for each knob; NONE for all that comes behind the last. */
    private static void dueSet(WheelYear x, int mark, int otherMark, int... pushes) {
        int sum = 0;
        for (int p : pushes) {
            sum += p;
        }
        String call = "set(0, " + mark + ", 1, " + otherMark + ", 0, ";
        due(call + "0)", x.set(0, mark, 1, otherMark, 0, 0), sum);
        for (int i = 0; i < 5; i++) {
            due(call + (i + 1) + ")", x.set(0, mark, 1, otherMark, 0, i + 1), i < pushes.length ? pushes[i] : NONE);
        }
    }

    private static void dueCant(WheelYear x, int mark, int otherMark) {
        for (int what = 0; what <= 5; what++) {
            due("set(0, " + mark + ", 1, " + otherMark + ", 0, " + what + ")", x.set(0, mark, 1, otherMark, 0, what), NONE);
        }
    }

    static void promise34_thereAlready() {
        dueSet(withKnobs(12, 12), 0, 0);
        dueSet(withKnobs(12, 12, 1, 1), 0, 0, 0);
        dueSet(withKnobs(12, 12, 0, 0, 1, 0, 0, 1, 5, 5), 0, 0, 0, 0, 0, 0);
        dueSet(withKnobs(1, 1), 0, 0);
    }

    static void promise34_withoutKnobsItCantBe() {
        dueCant(withKnobs(12, 12), 0, 1);
        dueCant(withKnobs(12, 12), 1, 0);
    }

    static void promise34_noSuchKnob() {
        WheelYear x = withKnobs(12, 12, 1, 0, 0, 1);
        dueSet(x, 2, 3, 2, 3);
        for (int what : new int[] {3, 4, 5, -1, Bounds.LEAST, Bounds.MOST}) {
            due("set(0, 2, 1, 3, 0, " + what + ")", x.set(0, 2, 1, 3, 0, what), NONE);
        }
        dueSet(withKnobs(12, 12, 1, 0, 0, 1, 0, 0, 1, 1), 1, 2, 0, 1, 0, 1);
    }

    static void promise34_theSameHand() {
        WheelYear x = withKnobs(12, 12, 1, 1);
        for (int hand = 0; hand <= 1; hand++) {
            for (int what = 0; what <= 1; what++) {
                due("set(" + hand + ", 0, " + hand + ", 0, 0, " + what + ")", x.set(hand, 0, hand, 0, 0, what), NONE);
            }
        }
        due("set(0, 5, 0, 5, 0, 0)", x.set(0, 5, 0, 5, 0, 0), NONE);
    }

    static void promise34_marksThatAreNotOnThem() {
        WheelYear x = withKnobs(12, 7, 1, 0, 0, 1);
        due("the last of both", x.set(0, 11, 1, 6, 0, 0), 17);
        for (int mark : new int[] {-1, 12, 400, Bounds.LEAST, Bounds.MOST}) {
            due("mark " + mark, x.set(0, mark, 1, 0, 0, 0), NONE);
        }
        for (int mark : new int[] {-1, 7, 11, Bounds.LEAST, Bounds.MOST}) {
            due("other mark " + mark, x.set(0, 0, 1, mark, 0, 0), NONE);
        }
    }

    static void promise34_itCantBe() {
        dueCant(withKnobs(12, 12, 2, 0, 0, 1), 1, 0);
        dueCant(withKnobs(12, 12, 1, 1), 1, 2);
        dueCant(withKnobs(12, 12, 0, 0, 0, 0, 0, 0, 0, 0), 0, 1);
        dueCant(withKnobs(12, 12, 6, 0, 4, 0, 0, 1), 1, 0);
    }

    static void promise34_aroundTheDial() {
        WheelYear x = withKnobs(12, 12, 5, 0);
        // 5 times 5 is 25, 1 behind two rounds
        dueSet(x, 1, 0, 5);
        dueSet(x, 11, 0, 7);
        x.put(0, 0, 11);
        dueSet(x, 0, 0, 5);
        dueSet(x, 10, 0, 7);
    }

    static void promise34_dialsOfOneMark() {
        // each push leaves a dial of one MARK where it is
        dueSet(withKnobs(1, 12, 1, 1), 0, 5, 5);
        dueSet(withKnobs(12, 1, 1, 1), 5, 0, 5);
        dueSet(withKnobs(1, 1, 9, 9), 0, 0, 0);
        dueCant(withKnobs(1, 1, 1, 1), 0, 1);
        dueSet(withKnobs(2, 3, 1, 1), 1, 0, 3);
    }

    static void promise34_theFewestInAll() {
        // (0 1) though (9 0) would do, (1 0) though (0 9) would be ahead of it as a row
        dueSet(withKnobs(12, 12, 1, 0, 9, 0), 9, 0, 0, 1);
        dueSet(withKnobs(12, 12, 9, 0, 1, 0), 9, 0, 1, 0);
        dueSet(withKnobs(100, 12, 9, 0, 7, 0, 1, 0), 16, 0, 1, 1, 0);
    }

    static void promise34_ofAsManyTheFirstRowFewerAhead() {
        dueSet(withKnobs(12, 12, 1, 0, 1, 0), 3, 0, 0, 3);
        dueSet(withKnobs(12, 12, 1, 0, 1, 0, 1, 0, 1, 0), 3, 0, 0, 0, 0, 3);
        // (0 2 0 0) is ahead of (1 0 0 1)
        dueSet(withKnobs(12, 12, 4, 0, 2, 2, 0, 0, 0, 4), 4, 4, 0, 2, 0, 0);
        // (0 0 2) is ahead of (0 1 1), (1 0 1) and all others of two
        dueSet(withKnobs(12, 12, 3, 0, 3, 0, 3, 0), 6, 0, 0, 0, 2);
        // 1 and 5 or 3 and 3
        dueSet(withKnobs(30, 12, 1, 0, 3, 0, 5, 0), 6, 0, 0, 2, 0);
        dueSet(withKnobs(30, 12, 3, 0, 1, 0, 5, 0), 6, 0, 0, 1, 1);
    }

    static void promise34_allTheWayRound() {
        // 9 n is 391 modulo 400 and n is 398 modulo 399 for the last n alone
        dueSet(withKnobs(400, 399, 9, 1), 391, 398, 159599);
        WheelYear x = withKnobs(400, 400, 1, 0, 0, 1);
        dueSet(x, 399, 399, 399, 399);
    }

    static void promise34_daysFrom0To1000000() {
        WheelYear x = withKnobs(12, 12, 1, 0);
        due("day 0", x.set(0, 0, 1, 0, 0, 0), 0);
        due("day 1,000,000", x.set(0, 0, 1, 0, LAST, 0), 0);
        for (int day : new int[] {-1, LAST + 1, Bounds.LEAST, Bounds.MOST}) {
            due("day " + day, x.set(0, 0, 1, 0, day, 0), NONE);
        }
    }

    static void promise34_fromTheMarksThatTheyShowOnThatDay() {
        WheelYear x = withKnobs(10, 5, 1, 0, 0, 1);
        x.pair(0, 6, 60);
        x.pair(1, 6, 30);
        // on day 7 they show 7 and 2
        due("there", x.set(0, 7, 1, 2, 7, 0), 0);
        due("set(0, 9, 1, 3, 7, 1)", x.set(0, 9, 1, 3, 7, 1), 2);
        due("set(0, 9, 1, 3, 7, 2)", x.set(0, 9, 1, 3, 7, 2), 1);
        due("back around", x.set(0, 6, 1, 1, 7, 0), 13);
        x.put(0, 1, 7);
        due("with a GAP", x.set(0, 6, 1, 2, 7, 0), 0);
    }

    static void promise34_theClockStaysAsItIs() {
        WheelYear x = withKnobs(12, 12, 1, 1);
        due("set", x.set(0, 3, 1, 3, 0, 0), 3);
        due("shows", x.shows(0, 0, 0), 0);
        due("OFFSET", x.of(1, 1), 0);
    }

    static void promise34_theHandsAreNotTheSameOtherWayRound() {
        WheelYear x = withKnobs(12, 7, 1, 0, 0, 2);
        due("first and second", x.set(0, 3, 1, 4, 0, 1), 3);
        due("second and first", x.set(1, 4, 0, 3, 0, 1), 3);
        due("second and first", x.set(1, 4, 0, 3, 0, 2), 2);
    }

    static void promise34_noSuchHand() {
        WheelYear x = withKnobs(12, 12, 1, 1);
        for (int hand : NO_HANDS) {
            due("set(" + hand + ", ..)", x.set(hand, 0, 1, 0, 0, 0), NONE);
            due("set(.., " + hand + ", ..)", x.set(0, 0, hand, 0, 0, 0), NONE);
        }
    }

    // ---- Promise 35: "On which DAY a HAND is WORN (hand NONE: the first of all HANDS). NONE (never by DAY 1,000,000; no
    // PAIRS)."

    static void promise35_noPairs() {
        WheelYear x = Bounds.hands(2, 12);
        due("worn(0)", x.worn(0), NONE);
        due("worn(NONE)", x.worn(NONE), NONE);
        due("no HANDS at all", new WheelYear().worn(NONE), NONE);
    }

    static void promise35_theFirstDriverMakesOneTurnADay() {
        WheelYear x = Bounds.hands(1, 12);
        x.pair(0, 6, 120);
        due("at first", x.worn(0), 10000);
        x.terms(0, 1);
        due("WEAR 1", x.worn(0), 1);
        x.terms(0, LAST);
        due("WEAR 1,000,000: on the last DAY, so never later", x.worn(0), LAST);
    }

    static void promise35_theFastestWheelOfTheTrain() {
        WheelYear x = Bounds.hands(1, 12);
        x.pair(0, 60, 120);
        x.pair(0, 120, 20);
        // 1/2, then 3 turns a day
        due("the last", x.worn(0), 3334);
        x.pair(0, 6, 120);
        due("one between", x.worn(0), 3334);
        x.pair(0, 120, 60);
        due("a later one that is slower", x.worn(0), 3334);
    }

    static void promise35_onThatDayAndNotTheDayAhead() {
        WheelYear x = Bounds.hands(1, 12);
        x.pair(0, 120, 60);
        x.terms(0, 7);
        due("7 through 2", x.worn(0), 4);
        x.terms(0, 8);
        due("8 through 2", x.worn(0), 4);
        x.terms(0, 9);
        due("9 through 2", x.worn(0), 5);
    }

    static void promise35_theFastestOfAll() {
        WheelYear x = Bounds.hands(1, 12);
        for (int i = 0; i < 4; i++) {
            x.pair(0, 120, 6);
        }
        due("10,000 turns", x.worn(0), 1);
        x.terms(0, LAST);
        due("1,000,000 turns", x.worn(0), 7);
        x.terms(0, 160000);
        due("160,000 turns", x.worn(0), 1);
        x.terms(0, 160001);
        due("160,001 turns", x.worn(0), 2);
    }

    static void promise35_exactWithTheLargestNumbers() {
        WheelYear x = Bounds.hands(1, 12);
        for (int i = 0; i < 4; i++) {
            x.pair(0, 120, 119);
        }
        x.terms(0, LAST);
        due("120 to the fourth through 119 to the fourth", x.worn(0), (1000000L * 200533921L + 207359999L) / 207360000L);
    }

    static void promise35_theFirstOfAllHands() {
        WheelYear x = Bounds.hands(6, 12);
        x.pair(1, 120, 60);
        x.pair(3, 6, 6);
        x.pair(5, 120, 40);
        due("worn(NONE)", x.worn(NONE), 3334);
        x.strip(5);
        due("worn(NONE)", x.worn(NONE), 5000);
        x.strip(1);
        due("worn(NONE)", x.worn(NONE), 10000);
        x.strip(3);
        due("worn(NONE)", x.worn(NONE), NONE);
        x.pair(0, 120, 60);
        due("the first HAND", x.worn(NONE), 5000);
    }

    static void promise35_noSuchHand() {
        WheelYear x = Bounds.hands(2, 12);
        x.pair(0, 6, 6);
        for (int hand : new int[] {2, 6, -2, Bounds.LEAST, Bounds.MOST}) {
            due("worn(" + hand + ")", x.worn(hand), NONE);
        }
        due("worn(NONE)", x.worn(NONE), 10000);
    }

    // ---- Promise 36: "SHARED: how many wheels in all." and "HANDS whose TRAINS begin with the same PAIRS share these"

    static void promise36_noneAtAll() {
        due("no HANDS", new WheelYear().shared(), 0);
        due("no PAIRS", Bounds.hands(6, 12).shared(), 0);
    }

    static void promise36_allAndNoneShared() {
        WheelYear same = Bounds.hands(6, 12);
        WheelYear other = Bounds.hands(6, 12);
        for (int h = 0; h < 6; h++) {
            for (int i = 0; i < 4; i++) {
                same.pair(h, 10 + i, 20 + i);
                other.pair(h, 10 + h, 20 + i);
            }
        }
        due("all the same", same.shared(), 8);
        due("none the same", other.shared(), 48);
    }

    static void promise36_onlyWhatTheyBeginWith() {
        WheelYear x = Bounds.hands(2, 12);
        x.pair(0, 10, 20);
        x.pair(0, 30, 40);
        x.pair(1, 11, 20);
        x.pair(1, 30, 40);
        due("the second PAIR alone", x.shared(), 8);
        x.strip(1);
        x.pair(1, 10, 20);
        due("the first PAIR", x.shared(), 4);
        x.pair(1, 30, 41);
        due("the first PAIR alone", x.shared(), 6);
    }

    static void promise36_bothWheelsOfAPairAreTheSame() {
        WheelYear x = Bounds.hands(2, 12);
        x.pair(0, 10, 20);
        x.pair(1, 10, 21);
        due("the driver alone", x.shared(), 4);
        x.strip(1);
        x.pair(1, 11, 20);
        due("the driven one alone", x.shared(), 4);
        x.strip(1);
        x.pair(1, 10, 20);
        due("both", x.shared(), 2);
        x.strip(1);
        x.pair(1, 20, 10);
        due("the other way round", x.shared(), 4);
        x.strip(1);
        x.pair(1, 20, 40);
        due("the same RATE by other teeth", x.shared(), 4);
    }

    static void promise36_aTrainWithinAnother() {
        WheelYear x = Bounds.hands(3, 12);
        x.pair(0, 10, 20);
        x.pair(1, 10, 20);
        x.pair(1, 30, 40);
        due("two", x.shared(), 4);
        x.pair(2, 10, 20);
        x.pair(2, 30, 40);
        x.pair(2, 50, 60);
        due("three", x.shared(), 6);
    }

    static void promise36_eachBranchOnce() {
        WheelYear x = Bounds.hands(4, 12);
        for (int h = 0; h < 4; h++) {
            x.pair(h, 10, 20);
            x.pair(h, 30 + h % 2, 40);
        }
        due("two branches", x.shared(), 6);
    }
}
