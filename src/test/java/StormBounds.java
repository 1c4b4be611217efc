/** Bounds of promises 37 and 38: storms. */
final class StormBounds {
    private static final int NONE = Bounds.NONE;
    private static final int LAST = Bounds.LAST;
    private static final int[] NO_HANDS = {-1, 2, 6, -2, Bounds.LEAST, Bounds.MOST};

    private static void due(String call, long got, long want) {
        Bounds.due(call, got, want);
    }

    /** How many days each hand loses, drawn as the document says. */
    private static int[] lost(int seed, int hands, int n) {
        int[] lost = new int[hands];
        long s = seed;
        for (int day = 0; day < n; day++) {
            for (int h = 0; h < hands; h++) {
                s = (s * 1103 + 12345) % 1000003;
                if (s % 10 == 0) {
                    lost[h]++;
                }
            }
        }
        return lost;
    }

    // ---- Promise 37: "A STORM, kept as the latest: how many days are lost in all. -1 (n 1 .. 100; DAY and n beyond
    // 1,000,000, too)."

    static void promise37_nFrom1To100() {
        WheelYear x = Bounds.hands(1, 12);
        due("n 1", x.storm(5, 10, 1), 1);
        due("n 100", x.storm(5, 10, 100), lost(5, 1, 100)[0]);
        for (int n : new int[] {0, 101, -1, Bounds.LEAST, Bounds.MOST}) {
            due("n " + n, x.storm(5, 10, n), -1);
        }
        due("refused by -1", x.count(6), 5);
    }

    static void promise37_seedsFrom0To1000000() {
        WheelYear x = Bounds.hands(1, 12);
        due("seed 0", x.storm(0, 0, 100), lost(0, 1, 100)[0]);
        due("seed 1,000,000", x.storm(LAST, 0, 100), lost(LAST, 1, 100)[0]);
        for (int seed : new int[] {-1, LAST + 1, Bounds.LEAST, Bounds.MOST}) {
            due("seed " + seed, x.storm(seed, 0, 1), -1);
            due("status()", x.status(), -1);
        }
        due("refused by -1", x.count(6), 4);
    }

    static void promise37_daysFrom0To1000000() {
        WheelYear x = Bounds.hands(1, 12);
        due("day 0", x.storm(0, 0, 1), 0);
        for (int day : new int[] {-1, -100, LAST + 1, Bounds.LEAST, Bounds.MOST}) {
            due("day " + day, x.storm(0, day, 1), -1);
            due("status()", x.status(), -1);
        }
        due("refused by -1", x.count(6), 5);
    }

    static void promise37_dayAndNUpTo1000000() {
        WheelYear x = Bounds.hands(1, 12);
        due("999,999 and 1", x.storm(0, LAST - 1, 1), 0);
        due("1,000,000 and 1", x.storm(0, LAST, 1), -1);
        due("999,900 and 100", x.storm(5, LAST - 100, 100), lost(5, 1, 100)[0]);
        due("999,901 and 100", x.storm(5, LAST - 99, 100), -1);
        due("most and 1", x.storm(0, Bounds.MOST, 1), -1);
        due("most and 100", x.storm(0, Bounds.MOST, 100), -1);
    }

    static void promise37_withoutHandsNoneIsLost() {
        WheelYear x = new WheelYear();
        due("storm(5, 10, 1)", x.storm(5, 10, 1), 0);
        due("status()", x.status(), 0);
    }

    static void promise37_onlyADrawOf0LosesTheDay() {
        WheelYear x = Bounds.hands(1, 12);
        // 5 times 1103 and 12345 ends in 0, with 2 in 1, with 8 in 9, with 4 in 7
        due("0", x.storm(5, 0, 1), 1);
        due("1", x.storm(2, 0, 1), 0);
        due("9", x.storm(8, 0, 1), 0);
        due("7", x.storm(4, 0, 1), 0);
    }

    static void promise37_modulo1000003() {
        WheelYear x = Bounds.hands(1, 12);
        // 905 times 1103 and 12345 is 1,010,560, modulo 1,000,003 it is 10,557
        due("905", x.storm(905, 0, 1), 0);
        // 906 times 1103 and 12345 is 1,011,663, modulo 1,000,003 it is 11,660
        due("906", x.storm(906, 0, 1), 1);
    }

    static void promise37_eachDayHandByHand() {
        WheelYear x = Bounds.hands(6, 400);
        for (int seed = 0; seed <= LAST; seed += 99991) {
            int[] lost = lost(seed, 6, 37);
            int sum = 0;
            for (int l : lost) {
                sum += l;
            }
            due("storm(" + seed + ", 50, 37)", x.storm(seed, 50, 37), sum);
            for (int h = 0; h < 6; h++) {
                due("stormed(" + h + ", 1) of " + seed, x.stormed(h, 1), lost[h]);
            }
        }
    }

    static void promise37_onPaper() {
        WheelYear x = Bounds.dayHand();
        x.storm(5, 10, 1);
        due("shows(0, 11, 0)", x.shows(0, 11, 0), 11);
        due("OFFSET", x.of(0, 1), 0);
        due("the same once more", x.storm(5, 10, 1), 1);
    }

    static void promise37_aRefusedOneIsNotKept() {
        WheelYear x = Bounds.dayHand();
        x.storm(5, 10, 1);
        x.storm(2, 10, 0);
        x.storm(2, 10, 101);
        x.storm(-1, 10, 1);
        x.storm(2, LAST, 1);
        due("stormed(0, 1)", x.stormed(0, 1), 1);
        due("stormed(0, 0)", x.stormed(0, 0), 10);
        x.storm(2, 10, 1);
        due("stormed(0, 1) of the next", x.stormed(0, 1), 0);
        due("stormed(0, 0) of the next", x.stormed(0, 0), 11);
    }

    // ---- Promise 38: "What a HAND SHOWS behind the latest STORM (what 0), how many days it lost (1). NONE."

    static void promise38_noneAheadOfAny() {
        WheelYear x = Bounds.hands(1, 12);
        due("stormed(0, 0)", x.stormed(0, 0), NONE);
        due("stormed(0, 1)", x.stormed(0, 1), NONE);
        x.storm(0, 0, 0);
        due("stormed(0, 0) behind a REFUSED one", x.stormed(0, 0), NONE);
        due("stormed(0, 1) behind a REFUSED one", x.stormed(0, 1), NONE);
    }

    static void promise38_onDayAndNLessWhatIsLost() {
        WheelYear x = Bounds.dayHand();
        x.storm(5, 10, 1);
        due("a day lost", x.stormed(0, 0), 10);
        x.storm(2, 10, 1);
        due("none lost", x.stormed(0, 0), 11);
        x.storm(2, 0, 1);
        due("from day 0", x.stormed(0, 0), 1);
        x.storm(5, 0, 1);
        due("from day 0, lost", x.stormed(0, 0), 0);
        x.storm(77, LAST - 100, 100);
        due("up to day 1,000,000", x.stormed(0, 0), (LAST - lost(77, 1, 100)[0]) % 400);
    }

    static void promise38_withOffsetAndTurnsAround() {
        WheelYear x = Bounds.dayHand();
        x.put(0, 0, 399);
        x.storm(2, 0, 1);
        due("around", x.stormed(0, 0), 0);
        x.storm(5, 0, 1);
        due("stays", x.stormed(0, 0), 399);
    }

    static void promise38_ofNoSuchHand() {
        WheelYear x = Bounds.hands(2, 12);
        x.storm(5, 10, 1);
        for (int hand : NO_HANDS) {
            due("stormed(" + hand + ", 0)", x.stormed(hand, 0), NONE);
            due("stormed(" + hand + ", 1)", x.stormed(hand, 1), NONE);
        }
    }

    static void promise38_ofAHandThatCameLater() {
        WheelYear x = Bounds.hands(1, 12);
        x.storm(5, 10, 1);
        x.hand(12);
        due("stormed(1, 0)", x.stormed(1, 0), NONE);
        due("stormed(1, 1)", x.stormed(1, 1), NONE);
        x.storm(5, 10, 1);
        due("in the next STORM", x.stormed(1, 1), 0);
    }

    static void promise38_ofTheSixthHand() {
        WheelYear x = Bounds.hands(6, 12);
        x.storm(5, 10, 100);
        due("stormed(5, 1)", x.stormed(5, 1), lost(5, 6, 100)[5]);
        due("stormed(6, 1)", x.stormed(6, 1), NONE);
    }

    static void promise38_isKeptAsItWasThen() {
        WheelYear x = Bounds.dayHand();
        x.storm(5, 10, 1);
        x.strip(0);
        x.put(0, 0, 7);
        due("stormed(0, 0)", x.stormed(0, 0), 10);
    }

    static void promise38_otherWhats() {
        WheelYear x = Bounds.hands(1, 12);
        x.storm(5, 10, 1);
        for (int what : new int[] {-1, 2, Bounds.LEAST, Bounds.MOST}) {
            due("stormed(0, " + what + ")", x.stormed(0, what), NONE);
        }
    }
}
