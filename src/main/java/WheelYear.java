/** A clock whose hands go by trains of wheels from one barrel; ../shared/DOC.md says what it promises. */
public final class WheelYear {
    public static final int NONE = -1;

    private static final int CANT_BE = -1;
    private static final int NO_SUCH = -2;
    private static final int NO_ROOM = -5;
    private static final int CANT_READ = -6;

    private static final int MOST_HANDS = 6;
    private static final int MOST_MARKS = 400;
    private static final int MOST_GAP = 9999;
    private static final int MOST_PAIRS = 4;
    private static final int MOST_WHEELS = 12;
    private static final int LEAST_TEETH = 6;
    private static final int MOST_TEETH = 120;
    private static final int MOST_WEAR = 1000000;
    private static final int FIRST_WEAR = 10000;
    private static final int LAST_DAY = 1000000;
    private static final int TURN_RING = 1000000;
    private static final int MOST_RATE = 100000;

    private static final int MOST_LAWS = 6;
    private static final int MOST_BYTES = 400;
    private static final int MOST_CLAUSES = 12;
    private static final int MOST_PARTS = 50;
    private static final int MOST_DEPTH = 8;
    private static final int MOST_NUMBER = 10000;
    private static final int NOTHING = -2000000000;
    private static final long MOST_SUM = 1000000000L;

    private static final int MOST_SIGHTS = 10;
    private static final int MOST_KNOBS = 4;
    private static final int MOST_PUSH = 9;
    private static final int LEAST_GONE = 2;
    private static final int MOST_GONE = 400;
    private static final int LONGEST_CAM = 99;
    private static final int MOST_CAM_DAYS = 2000;
    private static final int MOST_SPAN = 5000;
    private static final int MOST_SEED = 1000000;
    private static final int MOST_STORM = 100;
    private static final int IMAGES = 2;

    /** What a law's code does, one number a step: the kind in the low bits, what it needs above them. */
    private static final int KIND_BITS = 5;
    private static final int KIND_MASK = 31;
    private static final int TELL_NUMBER = 0;
    private static final int TELL_DAY = 1;
    private static final int TELL_HAND = 2;
    private static final int TELL_MARKS = 3;
    private static final int TELL_TURN = 4;
    private static final int TELL_OFFSET = 5;
    private static final int PLUS = 6;
    private static final int MINUS = 7;
    private static final int TIMES = 8;
    private static final int THROUGH = 9;
    private static final int REMAINS = 10;
    private static final int LESS = 11;
    private static final int MORE = 12;
    private static final int SAME = 13;
    private static final int TURNED = 14;
    private static final int SKIP_IF_NOT_SO = 15;
    private static final int SKIP_IF_SO = 16;

    private final State now = new State();
    private final State[] images = new State[IMAGES];
    private final int[] tape = new int[MOST_BYTES];
    private int tapeLength = 0;
    private int faultPlace = NONE;
    private int bentWheels = 0;
    private final int[] refusals = new int[4];
    private int latestRefusal = 0;
    private final Reader reader = new Reader();
    private final Asker asker = new Asker();
    private final NearSearch nearSearch = new NearSearch();
    private final SightSearch sightSearch = new SightSearch();
    private final Setting setting = new Setting();
    private final Storm latestStorm = new Storm();
    private final int[] camRow = new int[MOST_CAM_DAYS + 1];

    public WheelYear() {
        for (int k = 0; k < images.length; k++) {
            images[k] = new State();
        }
    }

    // ---- hands

    public int hand(int marks) {
        if (marks < 1 || marks > MOST_MARKS) {
            return refuse(CANT_BE);
        }
        int number = now.newHand(marks);
        return number == NONE ? refuse(NO_ROOM) : accept(number);
    }

    public int put(int hand, int what, int value) {
        if (what < 0 || what > 1 || value < 0 || (what == 1 && value > MOST_GAP)) {
            return refuse(CANT_BE);
        }
        Hand told = now.handAt(hand);
        if (told == null) {
            return refuse(NO_SUCH);
        }
        if (what == 1) {
            int before = told.gap;
            told.gap = value;
            return accept(before);
        }
        if (value >= told.marks) {
            return refuse(CANT_BE);
        }
        int before = told.offset;
        told.offset = value;
        return accept(before);
    }

    public int pair(int hand, int driver, int driven) {
        if (!areTeeth(driver) || !areTeeth(driven)) {
            return refuse(CANT_BE);
        }
        Hand told = now.handAt(hand);
        if (told == null) {
            return refuse(NO_SUCH);
        }
        return told.addPair(driver, driven) ? accept(told.pairs) : refuse(NO_ROOM);
    }

    public int strip(int hand) {
        Hand told = now.handAt(hand);
        if (told == null) {
            return refuse(NO_SUCH);
        }
        int before = told.pairs;
        told.clearTrain();
        return accept(before);
    }

    public int of(int hand, int what) {
        Hand told = now.handAt(hand);
        if (told == null) {
            return NONE;
        }
        switch (what) {
            case 0:
                return told.marks;
            case 1:
                return told.offset;
            case 2:
                return told.gap;
            case 3:
                return told.pairs;
            default:
                return what < 4 ? NONE : told.teethAt(what - 4);
        }
    }

    // ---- stock

    public int wheel(int teeth) {
        if (!areTeeth(teeth)) {
            return refuse(CANT_BE);
        }
        int number = now.newWheel(teeth);
        return number == NONE ? refuse(NO_ROOM) : accept(number);
    }

    public int drop(int wheel) {
        return now.loseWheel(wheel) ? accept(now.wheels) : refuse(NO_SUCH);
    }

    public int teeth(int wheel) {
        return now.wheelAt(wheel);
    }

    public int terms(int what, int value) {
        if (what != 0 || value < 1 || value > MOST_WEAR) {
            return refuse(CANT_BE);
        }
        int before = now.wear;
        now.wear = value;
        return accept(before);
    }

    // ---- tape, laws

    public int feed(int a, int b, int c, int d, int e) {
        if (tapeLength + 20 > MOST_BYTES) {
            return NONE;
        }
        feedNumber(a);
        feedNumber(b);
        feedNumber(c);
        feedNumber(d);
        feedNumber(e);
        return tapeLength;
    }

    public int end(int n) {
        if (n < 0 || n > tapeLength) {
            return NONE;
        }
        tapeLength = n;
        return n;
    }

    public int row() {
        if (tapeLength == 0) {
            return refuse(CANT_READ);
        }
        int came = 0;
        for (int i = 0; i < tapeLength && i < tape.length; i++) {
            if (areTeeth(tape[i]) && now.newWheel(tape[i]) != NONE) {
                came++;
            }
        }
        bentWheels = tapeLength - came;
        tapeLength = 0;
        return accept(came);
    }

    public int bent() {
        return bentWheels;
    }

    public int law() {
        int length = tapeLength;
        tapeLength = 0;
        if (now.lawCount >= MOST_LAWS) {
            return refuse(NO_ROOM);
        }
        Law read = reader.lawOf(tape, length);
        faultPlace = reader.fault;
        return read == null ? refuse(CANT_READ) : accept(now.newLaw(read));
    }

    public int fault() {
        return faultPlace;
    }

    public int force(int law) {
        if (law < NONE || law >= now.lawCount) {
            return refuse(NO_SUCH);
        }
        int before = now.inForce;
        now.inForce = law;
        return accept(before);
    }

    // ---- what hands show and should show

    public long rate(int hand, int what) {
        Hand told = now.handAt(hand);
        if (told == null || what < 0 || what > 1) {
            return NONE;
        }
        return what == 0 ? told.upper : told.lower;
    }

    public int shows(int hand, int day, int what) {
        Hand told = now.handAt(hand);
        if (told == null || !isDay(day)) {
            return NONE;
        }
        switch (what) {
            case 0:
                return told.markOn(day);
            case 1:
                return told.turnsOn(day);
            case 2:
                return isWrong(hand, told, day) ? 1 : 0;
            default:
                return NONE;
        }
    }

    public int should(int hand, int day) {
        Hand told = now.handAt(hand);
        if (told == null || !isDay(day)) {
            return NOTHING;
        }
        return asker.tells(now.lawInForce(), hand, told, day);
    }

    public int wrong(int hand, int from, int to, int what) {
        Hand told = now.handAt(hand);
        if (told == null || !isDay(from) || !isDay(to) || what < 0 || what > 1) {
            return NONE;
        }
        if (to < from || to - from > MOST_SPAN) {
            return NONE;
        }
        int days = 0;
        for (int day = from; day <= to; day++) {
            if (isWrong(hand, told, day)) {
                if (what == 0) {
                    return day;
                }
                days++;
            }
        }
        return what == 0 ? NONE : days;
    }

    public long off(int hand, int p, int q, int what) {
        Hand told = now.handAt(hand);
        if (told == null || !isRate(p, q) || what < 0 || what > 2) {
            return NONE;
        }
        long upper = Math.abs(told.upper * q - told.lower * p);
        long lower = told.lower * q;
        if (what < 2) {
            return inLowestTerms(upper, lower, what);
        }
        if (upper == 0) {
            return NONE;
        }
        long day = cutUp(lower, upper);
        return day > LAST_DAY ? NONE : day;
    }

    // ---- nearest trains

    public int nearest(int p, int q, int what) {
        if (!isRate(p, q) || what < 0 || what > 4) {
            return NONE;
        }
        if (!nearSearch.findFor(now, p, q)) {
            return NONE;
        }
        return what == 0 ? nearSearch.bestPairs : nearSearch.bestWheel(what - 1);
    }

    public long near(int p, int q, int what) {
        if (!isRate(p, q) || what < 0 || what > 1) {
            return NONE;
        }
        if (!nearSearch.findFor(now, p, q)) {
            return NONE;
        }
        return inLowestTerms(nearSearch.bestOff, nearSearch.bestLower * q, what);
    }

    public int mount(int hand, int p, int q) {
        if (!isRate(p, q)) {
            return refuse(CANT_BE);
        }
        Hand told = now.handAt(hand);
        if (told == null || !nearSearch.findFor(now, p, q)) {
            return refuse(NO_SUCH);
        }
        told.clearTrain();
        for (int i = 0; i < nearSearch.bestPairs; i++) {
            int driver = now.wheelAt(nearSearch.bestWheel(2 * i));
            int driven = now.wheelAt(nearSearch.bestWheel(2 * i + 1));
            told.addPair(driver, driven);
        }
        return accept(told.pairs);
    }

    public int cam(int hand, int n) {
        Hand told = now.handAt(hand);
        if (told == null || n < LONGEST_CAM || n > MOST_CAM_DAYS) {
            return NONE;
        }
        Law inForce = now.lawInForce();
        for (int day = 0; day <= n && day < camRow.length; day++) {
            camRow[day] = asker.tells(inForce, hand, told, day);
            if (camRow[day] == NOTHING) {
                return NONE;
            }
        }
        for (int length = 1; length <= LONGEST_CAM; length++) {
            if (comesAgain(length, n)) {
                return length;
            }
        }
        return NONE;
    }

    // ---- sights

    public int sight(int hand, int day, int mark) {
        if (!isDay(day) || mark < 0) {
            return refuse(CANT_BE);
        }
        Hand told = now.handAt(hand);
        if (told == null) {
            return refuse(NO_SUCH);
        }
        if (mark >= told.marks) {
            return refuse(CANT_BE);
        }
        return now.newSight(hand, day, mark) ? accept(now.sightCount) : refuse(NO_ROOM);
    }

    public int forget() {
        int before = now.sightCount;
        now.sightCount = 0;
        return before;
    }

    public int inside(int hand, int what) {
        Hand told = now.handAt(hand);
        if (told == null || what < 0 || what > 6) {
            return NONE;
        }
        sightSearch.findFor(now, hand, told.marks);
        if (what == 0) {
            return sightSearch.found;
        }
        if (sightSearch.bestPairs == 0) {
            return NONE;
        }
        if (what == 1) {
            return sightSearch.bestPairs;
        }
        return what == 2 ? sightSearch.bestOffset : sightSearch.bestWheel(what - 3);
    }

    public int gone(int hand, int what) {
        Hand told = now.handAt(hand);
        if (told == null || what < 0 || what > 1) {
            return NONE;
        }
        int gaps = 0;
        for (int gap = LEAST_GONE; gap <= MOST_GONE; gap++) {
            if (wouldShowSights(hand, told, gap)) {
                if (what == 1) {
                    return gap;
                }
                gaps++;
            }
        }
        return what == 0 ? gaps : NONE;
    }

    // ---- two hands, knobs

    public int together(int one, int mark, int other, int otherMark, int from) {
        Hand first = now.handAt(one);
        Hand second = now.handAt(other);
        if (first == null || second == null || !isDay(from)) {
            return NONE;
        }
        int to = Math.min(from + MOST_SPAN, LAST_DAY);
        for (int day = from; day <= to; day++) {
            if (first.markOn(day) == mark && second.markOn(day) == otherMark) {
                return day;
            }
        }
        return NONE;
    }

    public int knob() {
        if (now.knobCount >= MOST_KNOBS) {
            return refuse(NO_ROOM);
        }
        now.knobCount++;
        return accept(now.knobCount - 1);
    }

    public int push(int knob, int hand, int marks) {
        if (marks < 0 || marks > MOST_PUSH) {
            return refuse(CANT_BE);
        }
        if (knob < 0 || knob >= now.knobCount || now.handAt(hand) == null) {
            return refuse(NO_SUCH);
        }
        int before = now.pushOf(knob, hand);
        now.setPush(knob, hand, marks);
        return accept(before);
    }

    public int set(int one, int mark, int other, int otherMark, int day, int what) {
        Hand first = now.handAt(one);
        Hand second = now.handAt(other);
        if (first == null || second == null || one == other || !isDay(day)) {
            return NONE;
        }
        if (mark < 0 || mark >= first.marks || otherMark < 0 || otherMark >= second.marks) {
            return NONE;
        }
        if (what < 0 || what > now.knobCount) {
            return NONE;
        }
        setting.begin(first.marks, second.marks);
        for (int k = 0; k < now.knobCount; k++) {
            setting.addKnob(now.pushOf(k, one), now.pushOf(k, other));
        }
        if (!setting.reaches(mark - first.markOn(day), otherMark - second.markOn(day))) {
            return NONE;
        }
        return what == 0 ? setting.pushes : setting.pushesOf(what - 1);
    }

    // ---- wear, sharing

    public int worn(int hand) {
        if (hand != NONE) {
            return dayWorn(hand);
        }
        int first = NONE;
        for (int h = 0; h < now.handCount; h++) {
            int day = dayWorn(h);
            if (day != NONE && (first == NONE || day < first)) {
                first = day;
            }
        }
        return first;
    }

    public int shared() {
        int wheels = 0;
        for (int h = 0; h < now.handCount; h++) {
            Hand told = now.handAt(h);
            if (told != null) {
                wheels += 2 * (told.pairs - pairsSharedWithEarlier(h, told));
            }
        }
        return wheels;
    }

    // ---- storms

    public int storm(int seed, int day, int n) {
        if (seed < 0 || seed > MOST_SEED || !isDay(day)) {
            return refuse(CANT_BE);
        }
        if (n < 1 || n > MOST_STORM || day + n > LAST_DAY) {
            return refuse(CANT_BE);
        }
        return accept(latestStorm.blowOver(now, seed, day, n));
    }

    public int stormed(int hand, int what) {
        switch (what) {
            case 0:
                return latestStorm.markOf(hand);
            case 1:
                return latestStorm.lostBy(hand);
            default:
                return NONE;
        }
    }

    // ---- images

    public int image(int k) {
        State told = imageAt(k);
        if (told == null) {
            return refuse(CANT_BE);
        }
        told.takeFrom(now);
        told.kept = true;
        return accept(0);
    }

    public int back(int k) {
        State told = imageAt(k);
        if (told == null) {
            return refuse(CANT_BE);
        }
        if (!told.kept) {
            return refuse(NO_SUCH);
        }
        now.takeFrom(told);
        return accept(0);
    }

    public int count(int what) {
        switch (what) {
            case 0:
                return now.handCount;
            case 1:
                return now.wheels;
            case 2:
                return now.lawCount;
            case 3:
                return now.sightCount;
            case 4:
                return now.knobCount;
            case 5:
                return tapeLength;
            case 6:
            case 7:
            case 8:
            case 9:
                return refusals[what - 6];
            case 10:
                return now.inForce;
            case 11:
                return now.wear;
            default:
                return NONE;
        }
    }

    public int status() {
        return latestRefusal;
    }

    // ---- helpers of the calls

    private int refuse(int why) {
        latestRefusal = why;
        switch (why) {
            case CANT_BE:
                refusals[0]++;
                break;
            case NO_SUCH:
                refusals[1]++;
                break;
            case NO_ROOM:
                refusals[2]++;
                break;
            default:
                refusals[3]++;
                break;
        }
        return why;
    }

    private int accept(int answer) {
        latestRefusal = 0;
        return answer;
    }

    private State imageAt(int k) {
        return k >= 0 && k < images.length ? images[k] : null;
    }

    private void feedNumber(int number) {
        for (int shift = 24; shift >= 0 && tapeLength >= 0 && tapeLength < tape.length; shift -= 8) {
            tape[tapeLength] = (number >>> shift) & 255;
            tapeLength++;
        }
    }

    private boolean isWrong(int number, Hand told, int day) {
        int due = asker.tells(now.lawInForce(), number, told, day);
        return due != NOTHING && due != told.markOn(day);
    }

    private boolean comesAgain(int length, int n) {
        if (length < 1) {
            return false;
        }
        for (int day = length; day <= n && day < camRow.length; day++) {
            if (camRow[day] != camRow[day - length]) {
                return false;
            }
        }
        return true;
    }

    private boolean wouldShowSights(int number, Hand told, int gap) {
        for (int i = 0; i < now.sightCount; i++) {
            if (now.sightHandAt(i) == number
                    && told.markAfter(daysGone(now.sightDayAt(i), gap)) != now.sightMarkAt(i)) {
                return false;
            }
        }
        return true;
    }

    private int dayWorn(int hand) {
        Hand told = now.handAt(hand);
        return told == null ? NONE : told.wornOn(now.wear);
    }

    private int pairsSharedWithEarlier(int number, Hand told) {
        int most = 0;
        for (int h = 0; h < number; h++) {
            Hand earlier = now.handAt(h);
            if (earlier != null) {
                most = Math.max(most, told.pairsAlike(earlier));
            }
        }
        return most;
    }

    private static boolean areTeeth(int teeth) {
        return teeth >= LEAST_TEETH && teeth <= MOST_TEETH;
    }

    private static boolean isDay(int day) {
        return day >= 0 && day <= LAST_DAY;
    }

    private static boolean isRate(int p, int q) {
        return p >= 1 && p <= MOST_RATE && q >= 1 && q <= MOST_RATE;
    }

    private static long daysGone(int day, int gap) {
        return gap > 0 ? day - day / gap : day;
    }

    private static long cut(long upper, long lower) {
        return lower == 0 ? 0 : upper / lower;
    }

    private static long remainder(long upper, long lower) {
        return lower == 0 ? 0 : upper % lower;
    }

    /** For upper and lower numbers that are not below 0. */
    private static long cutUp(long upper, long lower) {
        return cut(upper, lower) + (remainder(upper, lower) == 0 ? 0 : 1);
    }

    private static int onRing(int place, int marks) {
        int rest = marks > 0 ? place % marks : 0;
        return rest < 0 ? rest + marks : rest;
    }

    private static long inLowestTerms(long upper, long lower, int what) {
        long common = greatestCommon(upper, lower);
        return cut(what == 0 ? upper : lower, common);
    }

    private static long greatestCommon(long one, long other) {
        long a = one;
        long b = other;
        // numbers of 64 bits need fewer than 100 steps
        for (int i = 0; i < 100 && b != 0; i++) {
            long rest = a % b;
            a = b;
            b = rest;
        }
        return a;
    }

    // ---- what the clock is made of

    private static final class Hand {
        private int marks = 1;
        private int offset = 0;
        private int gap = 0;
        private int pairs = 0;
        private final int[] trainTeeth = new int[2 * MOST_PAIRS];
        /** The rate in lowest terms, kept since long spans of days ask for it again and again. */
        private long upper = 1;
        private long lower = 1;

        private void begin(int marksTold) {
            marks = marksTold;
            offset = 0;
            gap = 0;
            clearTrain();
        }

        private void takeFrom(Hand other) {
            marks = other.marks;
            offset = other.offset;
            gap = other.gap;
            pairs = other.pairs;
            upper = other.upper;
            lower = other.lower;
            System.arraycopy(other.trainTeeth, 0, trainTeeth, 0, 2 * MOST_PAIRS);
        }

        private void clearTrain() {
            pairs = 0;
            upper = 1;
            lower = 1;
        }

        private boolean addPair(int driver, int driven) {
            if (pairs < 0 || pairs >= MOST_PAIRS) {
                return false;
            }
            trainTeeth[2 * pairs] = driver;
            trainTeeth[2 * pairs + 1] = driven;
            pairs++;
            long newUpper = upper * driver;
            long newLower = lower * driven;
            upper = inLowestTerms(newUpper, newLower, 0);
            lower = inLowestTerms(newUpper, newLower, 1);
            return true;
        }

        private int teethAt(int i) {
            return i >= 0 && i < 2 * pairs && i < trainTeeth.length ? trainTeeth[i] : NONE;
        }

        private int turnsOn(int day) {
            return (int) remainder(cut(daysGone(day, gap) * upper, lower), TURN_RING);
        }

        private int markOn(int day) {
            return markAfter(daysGone(day, gap));
        }

        private int markAfter(long days) {
            return (int) remainder(cut(days * upper * marks, lower) + offset, marks);
        }

        private int wornOn(int wear) {
            if (pairs == 0) {
                return NONE;
            }
            // the first driver makes a turn a day
            long first = wear;
            long turns = 1;
            long days = 1;
            for (int i = 0; i < pairs; i++) {
                turns *= teethAt(2 * i);
                days *= teethAt(2 * i + 1);
                first = Math.min(first, cutUp(wear * days, turns));
            }
            return first > LAST_DAY ? NONE : (int) first;
        }

        private int pairsAlike(Hand other) {
            int alike = 0;
            for (int i = 0; i < Math.min(pairs, other.pairs); i++) {
                if (teethAt(2 * i) != other.teethAt(2 * i) || teethAt(2 * i + 1) != other.teethAt(2 * i + 1)) {
                    return alike;
                }
                alike++;
            }
            return alike;
        }
    }

    /** All that an image keeps. */
    private static final class State {
        private boolean kept = false;
        private final Hand[] hands = new Hand[MOST_HANDS];
        private int handCount = 0;
        private final int[] stock = new int[MOST_WHEELS];
        private int wheels = 0;
        private int wear = FIRST_WEAR;
        private final Law[] laws = new Law[MOST_LAWS];
        private int lawCount = 0;
        private int inForce = NONE;
        private final int[] sightHands = new int[MOST_SIGHTS];
        private final int[] sightDays = new int[MOST_SIGHTS];
        private final int[] sightMarks = new int[MOST_SIGHTS];
        private int sightCount = 0;
        private final int[] knobPushes = new int[MOST_KNOBS * MOST_HANDS];
        private int knobCount = 0;

        private State() {
            for (int h = 0; h < hands.length; h++) {
                hands[h] = new Hand();
            }
        }

        private void takeFrom(State other) {
            for (int h = 0; h < MOST_HANDS; h++) {
                Hand own = hands[h];
                Hand told = other.hands[h];
                if (own != null && told != null) {
                    own.takeFrom(told);
                }
            }
            handCount = other.handCount;
            System.arraycopy(other.stock, 0, stock, 0, MOST_WHEELS);
            wheels = other.wheels;
            wear = other.wear;
            for (int i = 0; i < MOST_LAWS; i++) {
                laws[i] = other.laws[i];
            }
            lawCount = other.lawCount;
            inForce = other.inForce;
            System.arraycopy(other.sightHands, 0, sightHands, 0, MOST_SIGHTS);
            System.arraycopy(other.sightDays, 0, sightDays, 0, MOST_SIGHTS);
            System.arraycopy(other.sightMarks, 0, sightMarks, 0, MOST_SIGHTS);
            sightCount = other.sightCount;
            System.arraycopy(other.knobPushes, 0, knobPushes, 0, MOST_KNOBS * MOST_HANDS);
            knobCount = other.knobCount;
        }

        private int newHand(int marks) {
            Hand next = handCount >= 0 && handCount < hands.length ? hands[handCount] : null;
            if (next == null) {
                return NONE;
            }
            next.begin(marks);
            handCount++;
            return handCount - 1;
        }

        private Hand handAt(int number) {
            return number >= 0 && number < handCount && number < hands.length ? hands[number] : null;
        }

        private int newWheel(int teeth) {
            if (wheels < 0 || wheels >= stock.length) {
                return NONE;
            }
            stock[wheels] = teeth;
            wheels++;
            return wheels - 1;
        }

        private int wheelAt(int number) {
            return number >= 0 && number < wheels && number < stock.length ? stock[number] : NONE;
        }

        private boolean loseWheel(int number) {
            if (number < 0 || number >= wheels) {
                return false;
            }
            for (int i = number; i + 1 < wheels && i + 1 < stock.length; i++) {
                stock[i] = stock[i + 1];
            }
            wheels--;
            return true;
        }

        private int newLaw(Law law) {
            if (lawCount < 0 || lawCount >= laws.length) {
                return NONE;
            }
            laws[lawCount] = law;
            lawCount++;
            return lawCount - 1;
        }

        private Law lawInForce() {
            return inForce >= 0 && inForce < lawCount && inForce < laws.length ? laws[inForce] : null;
        }

        private boolean newSight(int hand, int day, int mark) {
            if (sightCount < 0 || sightCount >= MOST_SIGHTS) {
                return false;
            }
            sightHands[sightCount] = hand;
            sightDays[sightCount] = day;
            sightMarks[sightCount] = mark;
            sightCount++;
            return true;
        }

        private int sightHandAt(int i) {
            return i >= 0 && i < sightHands.length ? sightHands[i] : NONE;
        }

        private int sightDayAt(int i) {
            return i >= 0 && i < sightDays.length ? sightDays[i] : 0;
        }

        private int sightMarkAt(int i) {
            return i >= 0 && i < sightMarks.length ? sightMarks[i] : NONE;
        }

        private int pushOf(int knob, int hand) {
            int i = knob * MOST_HANDS + hand;
            return i >= 0 && i < knobPushes.length ? knobPushes[i] : 0;
        }

        private void setPush(int knob, int hand, int marks) {
            int i = knob * MOST_HANDS + hand;
            if (i >= 0 && i < knobPushes.length) {
                knobPushes[i] = marks;
            }
        }
    }

    // ---- laws

    /** A text that was read: never changed, so that images can share it. */
    private static final class Law {
        private final int[] code;
        /** Where each clause begins, and behind the last one where the code ends. */
        private final int[] starts;

        private Law(int[] code, int[] starts) {
            this.code = code;
            this.starts = starts;
        }

        private int clauses() {
            return starts.length - 1;
        }

        private int startOf(int clause) {
            return clause >= 0 && clause < starts.length ? starts[clause] : code.length;
        }

        private int stepAt(int i) {
            return i >= 0 && i < code.length ? code[i] : NONE;
        }
    }

    /** The tokens of a text, and one behind them for its end. */
    private static final class Tokens {
        private static final int BLANK = 32;
        private static final int AT_END = NONE;
        /** Tokens of one byte are of that byte's kind, so the others begin above. */
        private static final int OTHER_WORD = 256;
        private static final int SHOWS = 257;
        private static final int IF = 258;
        private static final int OR = 259;
        private static final int AND = 260;
        private static final int NOT = 261;
        private static final int FIRST_PART = 300;

        private final int[] kinds = new int[MOST_BYTES + 1];
        private final int[] places = new int[MOST_BYTES + 1];
        private final int[] numbers = new int[MOST_BYTES + 1];
        private int tokenCount = 0;
        private int[] text = null;
        private int length = 0;
        private int place = 0;

        private void takeAll(int[] bytes, int byteCount) {
            text = bytes;
            length = byteCount;
            place = 0;
            tokenCount = 0;
            for (int i = 0; i < MOST_BYTES && place < length; i++) {
                takeOne();
            }
            add(AT_END, 0, length);
        }

        private void takeOne() {
            int first = byteAt(place);
            if (isLetter(first)) {
                takeWord();
            } else if (isDigit(first)) {
                takeNumber();
            } else {
                if (first != BLANK) {
                    add(first, 0, place);
                }
                place++;
            }
        }

        private void takeWord() {
            int start = place;
            for (int i = 0; i < MOST_BYTES && isLetter(byteAt(place)); i++) {
                place++;
            }
            add(wordKind(start), 0, start);
        }

        private void takeNumber() {
            int start = place;
            int number = 0;
            for (int i = 0; i < MOST_BYTES && isDigit(byteAt(place)); i++) {
                // held just above the most that a number can be, so that long rows of digits stay too large
                number = Math.min(number * 10 + byteAt(place) - '0', MOST_NUMBER + 1);
                place++;
            }
            add(FIRST_PART + TELL_NUMBER, number, start);
        }

        private void add(int kind, int number, int start) {
            if (tokenCount >= 0 && tokenCount <= MOST_BYTES) {
                kinds[tokenCount] = kind;
                numbers[tokenCount] = number;
                places[tokenCount] = start;
                tokenCount++;
            }
        }

        private int wordKind(int start) {
            if (isWord("shows", start)) {
                return SHOWS;
            }
            if (isWord("if", start)) {
                return IF;
            }
            if (isWord("or", start)) {
                return OR;
            }
            if (isWord("and", start)) {
                return AND;
            }
            if (isWord("not", start)) {
                return NOT;
            }
            if (isWord("day", start)) {
                return FIRST_PART + TELL_DAY;
            }
            if (isWord("hand", start)) {
                return FIRST_PART + TELL_HAND;
            }
            if (isWord("marks", start)) {
                return FIRST_PART + TELL_MARKS;
            }
            if (isWord("turn", start)) {
                return FIRST_PART + TELL_TURN;
            }
            if (isWord("offset", start)) {
                return FIRST_PART + TELL_OFFSET;
            }
            return OTHER_WORD;
        }

        private boolean isWord(String word, int start) {
            if (place - start != word.length()) {
                return false;
            }
            for (int i = 0; i < word.length(); i++) {
                if (byteAt(start + i) != word.charAt(i)) {
                    return false;
                }
            }
            return true;
        }

        private int byteAt(int i) {
            return text != null && i >= 0 && i < length && i < text.length ? text[i] : AT_END;
        }

        private static boolean isLetter(int sign) {
            return sign >= 'a' && sign <= 'z';
        }

        private static boolean isDigit(int sign) {
            return sign >= '0' && sign <= '9';
        }
    }

    /** Reads texts of laws, token by token; a reading method leaves the token that can't go on where it is. */
    private static final class Reader {
        private final Tokens tokens = new Tokens();
        private int token = 0;
        private int tokenKind = Tokens.AT_END;
        private int tokenNumber = 0;
        private int tokenPlace = 0;
        private int parts = 0;
        private int clauses = 0;
        private int steps = 0;
        // a token makes one step at most, and a byte one token
        private final int[] code = new int[MOST_BYTES];
        private final int[] starts = new int[MOST_CLAUSES + 1];
        private int fault = NONE;

        /** The law that the text is; null, and fault tells where, if it is none. */
        private Law lawOf(int[] bytes, int byteCount) {
            tokens.takeAll(bytes, byteCount);
            token = NONE;
            nextToken();
            parts = 0;
            clauses = 0;
            steps = 0;
            if (!readClauses()) {
                fault = tokenPlace;
                return null;
            }
            fault = NONE;
            int[] ownCode = new int[Math.max(steps, 0)];
            System.arraycopy(code, 0, ownCode, 0, Math.min(ownCode.length, code.length));
            int[] ownStarts = new int[Math.max(clauses, 0) + 1];
            System.arraycopy(starts, 0, ownStarts, 0, Math.min(ownStarts.length, starts.length));
            return new Law(ownCode, ownStarts);
        }

        private boolean readClauses() {
            for (int i = 0; i < MOST_CLAUSES; i++) {
                markClause();
                clauses++;
                if (!readClause()) {
                    return false;
                }
                if (tokenKind == Tokens.AT_END) {
                    markClause();
                    return true;
                }
                if (tokenKind != ';') {
                    return false;
                }
                nextToken();
            }
            return false;
        }

        private void markClause() {
            if (clauses >= 0 && clauses < starts.length) {
                starts[clauses] = steps;
            }
        }

        private boolean readClause() {
            if (tokenKind != Tokens.SHOWS) {
                return false;
            }
            nextToken();
            if (!readSum(0)) {
                return false;
            }
            if (tokenKind != Tokens.IF) {
                return true;
            }
            nextToken();
            return readTest(0);
        }

        private boolean readTest(int depth) {
            if (!readBoth(depth)) {
                return false;
            }
            for (int i = 0; i < MOST_BYTES && tokenKind == Tokens.OR; i++) {
                int skip = steps;
                addStep(SKIP_IF_SO, 0);
                nextToken();
                if (!readBoth(depth)) {
                    return false;
                }
                aimHere(skip, SKIP_IF_SO);
            }
            return true;
        }

        private boolean readBoth(int depth) {
            if (!readPlain(depth)) {
                return false;
            }
            for (int i = 0; i < MOST_BYTES && tokenKind == Tokens.AND; i++) {
                int skip = steps;
                addStep(SKIP_IF_NOT_SO, 0);
                nextToken();
                if (!readPlain(depth)) {
                    return false;
                }
                aimHere(skip, SKIP_IF_NOT_SO);
            }
            return true;
        }

        private boolean readPlain(int depth) {
            // a loop, since nothing but the tape bounds how many stand in a row
            int nots = 0;
            for (int i = 0; i < MOST_BYTES && tokenKind == Tokens.NOT; i++) {
                nots++;
                nextToken();
            }
            boolean good = tokenKind == '(' ? readRoundBracket(depth) : readComparison(depth);
            if (good && (nots & 1) == 1) {
                addStep(TURNED, 0);
            }
            return good;
        }

        private boolean readRoundBracket(int depth) {
            if (depth >= MOST_DEPTH) {
                return false;
            }
            nextToken();
            if (!readTest(depth + 1) || tokenKind != ')') {
                return false;
            }
            nextToken();
            return true;
        }

        private boolean readComparison(int depth) {
            if (!readSum(depth)) {
                return false;
            }
            int kind = comparisonOf(tokenKind);
            if (kind == NONE) {
                return false;
            }
            nextToken();
            if (!readSum(depth)) {
                return false;
            }
            addStep(kind, 0);
            return true;
        }

        private boolean readSum(int depth) {
            if (!readTerm(depth)) {
                return false;
            }
            for (int i = 0; i < MOST_BYTES && (tokenKind == '+' || tokenKind == '-'); i++) {
                int kind = tokenKind == '+' ? PLUS : MINUS;
                nextToken();
                if (!readTerm(depth)) {
                    return false;
                }
                addStep(kind, 0);
            }
            return true;
        }

        private boolean readTerm(int depth) {
            if (!readPart(depth)) {
                return false;
            }
            for (int i = 0; i < MOST_BYTES && multiplierOf(tokenKind) != NONE; i++) {
                int kind = multiplierOf(tokenKind);
                nextToken();
                if (!readPart(depth)) {
                    return false;
                }
                addStep(kind, 0);
            }
            return true;
        }

        private boolean readPart(int depth) {
            if (tokenKind == '[') {
                return readSquareBracket(depth);
            }
            if (tokenKind < Tokens.FIRST_PART || parts >= MOST_PARTS || tokenNumber > MOST_NUMBER) {
                return false;
            }
            parts++;
            addStep(tokenKind - Tokens.FIRST_PART, tokenNumber);
            nextToken();
            return true;
        }

        private boolean readSquareBracket(int depth) {
            if (depth >= MOST_DEPTH) {
                return false;
            }
            nextToken();
            if (!readSum(depth + 1) || tokenKind != ']') {
                return false;
            }
            nextToken();
            return true;
        }

        private static int comparisonOf(int kind) {
            switch (kind) {
                case '<':
                    return LESS;
                case '>':
                    return MORE;
                case '=':
                    return SAME;
                default:
                    return NONE;
            }
        }

        private static int multiplierOf(int kind) {
            switch (kind) {
                case '*':
                    return TIMES;
                case '/':
                    return THROUGH;
                case '%':
                    return REMAINS;
                default:
                    return NONE;
            }
        }

        private void addStep(int kind, int value) {
            if (steps >= 0 && steps < code.length) {
                code[steps] = (value << KIND_BITS) | kind;
                steps++;
            }
        }

        private void aimHere(int step, int kind) {
            if (step >= 0 && step < code.length) {
                code[step] = (steps << KIND_BITS) | kind;
            }
        }

        /** Stays at the end's token once it is there. */
        private void nextToken() {
            token = Math.min(token + 1, tokens.tokenCount - 1);
            if (token >= 0 && token <= MOST_BYTES) {
                tokenKind = tokens.kinds[token];
                tokenNumber = tokens.numbers[token];
                tokenPlace = tokens.places[token];
            }
        }
    }

    /** Asks laws what a hand should show. */
    private static final class Asker {
        // eight brackets within one another leave some twenty numbers open at once
        private final long[] open = new long[64];
        private int openCount = 0;
        private boolean so = true;
        private int askedNumber = 0;
        private Hand askedHand = null;
        private int askedDay = 0;

        /** What the last clause that holds tells; NOTHING without one. */
        private int tells(Law law, int number, Hand hand, int day) {
            if (law == null || hand == null) {
                return NOTHING;
            }
            askedNumber = number;
            askedHand = hand;
            askedDay = day;
            for (int clause = law.clauses() - 1; clause >= 0; clause--) {
                if (holds(law, clause)) {
                    return (int) open[0];
                }
            }
            return NOTHING;
        }

        /** The clause's sum stays the first of the open numbers while its test is asked. */
        private boolean holds(Law law, int clause) {
            openCount = 0;
            so = true;
            int stop = law.startOf(clause + 1);
            for (int at = law.startOf(clause); at < stop; at++) {
                int step = law.stepAt(at);
                int kind = step & KIND_MASK;
                int value = step >> KIND_BITS;
                if (kind == SKIP_IF_SO || kind == SKIP_IF_NOT_SO) {
                    if (so == (kind == SKIP_IF_SO)) {
                        at = Math.max(at, value - 1);
                    }
                } else if (kind == TURNED) {
                    so = !so;
                } else if (kind >= PLUS) {
                    if (!joinLastTwo(kind)) {
                        return false;
                    }
                } else if (!openNumber(numberFor(kind, value))) {
                    return false;
                }
            }
            return so;
        }

        private long numberFor(int kind, int value) {
            if (askedHand == null) {
                return 0;
            }
            switch (kind) {
                case TELL_DAY:
                    return askedDay;
                case TELL_HAND:
                    return askedNumber;
                case TELL_MARKS:
                    return askedHand.marks;
                case TELL_TURN:
                    return askedHand.turnsOn(askedDay);
                case TELL_OFFSET:
                    return askedHand.offset;
                default:
                    return value;
            }
        }

        private boolean openNumber(long number) {
            if (openCount < 0 || openCount >= open.length) {
                return false;
            }
            open[openCount] = number;
            openCount++;
            return true;
        }

        /** False if what comes of it is broken. */
        private boolean joinLastTwo(int kind) {
            if (openCount < 2 || openCount > open.length) {
                return false;
            }
            long first = open[openCount - 2];
            long second = open[openCount - 1];
            openCount -= 2;
            switch (kind) {
                case LESS:
                    so = first < second;
                    return true;
                case MORE:
                    so = first > second;
                    return true;
                case SAME:
                    so = first == second;
                    return true;
                case PLUS:
                    return openSum(first + second);
                case MINUS:
                    return openSum(first - second);
                case TIMES:
                    return openSum(first * second);
                case THROUGH:
                    return second != 0 && openSum(first / second);
                default:
                    return second != 0 && openSum(first % second);
            }
        }

        private boolean openSum(long sum) {
            return sum >= -MOST_SUM && sum <= MOST_SUM && openNumber(sum);
        }
    }

    // ---- trains of stock wheels

    /** Goes through the trains of one or two pairs of stock wheels, fewer pairs first, then as rows of wheels. */
    private abstract static class Search {
        private final int[] tried = new int[4];
        private final int[] best = new int[4];
        int bestPairs = 0;

        /** Looks at a train of this rate; ways: how many rows of the same wheels turn alike, of which it is the first. */
        abstract void weigh(long upper, long lower, int pairs, int ways);

        final void goThrough(State state) {
            bestPairs = 0;
            for (int a = 0; a < state.wheels; a++) {
                for (int b = 0; b < state.wheels; b++) {
                    if (a != b) {
                        tried[0] = a;
                        tried[1] = b;
                        weigh(state.wheelAt(a), state.wheelAt(b), 1, 1);
                    }
                }
            }
            for (int a = 0; a < state.wheels; a++) {
                for (int b = 0; b < state.wheels; b++) {
                    if (a != b) {
                        goThroughSecondPairs(state, a, b);
                    }
                }
            }
        }

        /** Drivers change places with drivers, driven with driven, and it turns alike: the row in order comes first. */
        private void goThroughSecondPairs(State state, int a, int b) {
            tried[0] = a;
            tried[1] = b;
            for (int c = a + 1; c < state.wheels; c++) {
                if (c == b) {
                    continue;
                }
                long upper = (long) state.wheelAt(a) * state.wheelAt(c);
                for (int d = b + 1; d < state.wheels; d++) {
                    if (d != a && d != c) {
                        tried[2] = c;
                        tried[3] = d;
                        weigh(upper, (long) state.wheelAt(b) * state.wheelAt(d), 2, 4);
                    }
                }
            }
        }

        final void keepTried(int pairs) {
            bestPairs = pairs;
            System.arraycopy(tried, 0, best, 0, 4);
        }

        final int bestWheel(int i) {
            return i >= 0 && i < 2 * bestPairs && i < best.length ? best[i] : NONE;
        }
    }

    private static final class NearSearch extends Search {
        private long p = 1;
        private long q = 1;
        /** By how much the best is off: bestOff through bestLower times q. */
        private long bestOff = 0;
        private long bestLower = 1;

        /** False if there is no train. */
        private boolean findFor(State state, int pTold, int qTold) {
            p = pTold;
            q = qTold;
            goThrough(state);
            return bestPairs > 0;
        }

        void weigh(long upper, long lower, int pairs, int ways) {
            long off = Math.abs(upper * q - lower * p);
            if (bestPairs == 0 || off * bestLower < bestOff * lower) {
                bestOff = off;
                bestLower = lower;
                keepTried(pairs);
            }
        }
    }

    private static final class SightSearch extends Search {
        private int marks = 1;
        private int seenCount = 0;
        private final int[] seenDays = new int[MOST_SIGHTS];
        private final int[] seenMarks = new int[MOST_SIGHTS];
        private int found = 0;
        private int bestOffset = 0;

        private void findFor(State state, int hand, int marksTold) {
            marks = marksTold;
            found = 0;
            seenCount = 0;
            for (int i = 0; i < state.sightCount && seenCount < MOST_SIGHTS; i++) {
                if (state.sightHandAt(i) == hand) {
                    seenDays[seenCount] = state.sightDayAt(i);
                    seenMarks[seenCount] = state.sightMarkAt(i);
                    seenCount++;
                }
            }
            goThrough(state);
        }

        void weigh(long upper, long lower, int pairs, int ways) {
            if (seenCount == 0) {
                found += ways * marks;
                keepIfBetter(pairs, 0);
                return;
            }
            int offset = offsetBy(0, upper, lower);
            for (int i = 1; i < seenCount; i++) {
                if (offsetBy(i, upper, lower) != offset) {
                    return;
                }
            }
            found += ways;
            keepIfBetter(pairs, offset);
        }

        /** The one offset by which a train of this rate shows what was seen. */
        private int offsetBy(int seen, long upper, long lower) {
            if (seen < 0 || seen >= MOST_SIGHTS) {
                return 0;
            }
            int moved = (int) remainder(cut(seenDays[seen] * upper * marks, lower), marks);
            return onRing(seenMarks[seen] - moved, marks);
        }

        private void keepIfBetter(int pairs, int offset) {
            if (bestPairs == 0 || (pairs == bestPairs && offset < bestOffset)) {
                bestOffset = offset;
                keepTried(pairs);
            }
        }
    }

    // ---- knobs

    /**
     * Finds the fewest pushes from place (0, 0) to another on two dials. The order of pushes does not matter, so a
     * place is gone on from only by the knob that led to it or later ones; with the last knob first, places of as
     * many pushes are then met in the order of their rows, and the first way to a place is the one that is due.
     */
    private static final class Setting {
        private static final int FIRST_LINKS = 256;
        private static final int MOST_LINKS = MOST_MARKS * MOST_MARKS;
        private static final int KNOB_BITS = 3;
        private static final int KNOB_MASK = 7;

        private int wide = 1;
        private int high = 1;
        private int knobs = 0;
        private final int[] wideBy = new int[MOST_KNOBS];
        private final int[] highBy = new int[MOST_KNOBS];
        private final int[] times = new int[MOST_KNOBS];
        private int pushes = 0;
        /**
         * A link a place: 0 if it was not met, else the knob that led to it and 1 and, above these bits, the place
         * met next and 1. Made when it is needed, as large dials take much room.
         */
        private int[] links = new int[0];
        private int newest = 0;

        private void begin(int wideMarks, int highMarks) {
            wide = Math.max(1, Math.min(wideMarks, MOST_MARKS));
            high = Math.max(1, Math.min(highMarks, MOST_MARKS));
            knobs = 0;
            int size = wide * high;
            if (links.length < size) {
                int roomy = Math.min(MOST_LINKS, Math.max(FIRST_LINKS, 2 * links.length));
                links = new int[Math.max(size, roomy)];
            }
            for (int i = 0; i < size && i < links.length; i++) {
                links[i] = 0;
            }
        }

        private void addKnob(int byWide, int byHigh) {
            if (knobs >= 0 && knobs < MOST_KNOBS) {
                wideBy[knobs] = onRing(byWide, wide);
                highBy[knobs] = onRing(byHigh, high);
                knobs++;
            }
        }

        private boolean reaches(int wideAway, int highAway) {
            int aim = onRing(wideAway, wide) * high + onRing(highAway, high);
            int size = wide * high;
            newest = 0;
            addToLink(0, 1);
            int at = 0;
            for (int i = 0; i < size && at != NONE && !isMet(aim); i++) {
                goOnFrom(at);
                at = (linkAt(at) >> KNOB_BITS) - 1;
            }
            return isMet(aim) && countBack(aim);
        }

        private void goOnFrom(int at) {
            int earliest = Math.max(0, knobTo(at));
            int x = (int) cut(at, high);
            int y = at - x * high;
            for (int k = Math.min(knobs, MOST_KNOBS) - 1; k >= earliest; k--) {
                int next = placeAt(x + wideBy[k], y + highBy[k]);
                if (next >= 0 && next < links.length && links[next] == 0) {
                    links[next] = k + 1;
                    addToLink(newest, (next + 1) << KNOB_BITS);
                    newest = next;
                }
            }
        }

        private boolean countBack(int aim) {
            pushes = 0;
            for (int k = 0; k < MOST_KNOBS; k++) {
                times[k] = 0;
            }
            int at = aim;
            for (int i = 0; i < MOST_LINKS && at != 0; i++) {
                int k = knobTo(at);
                if (k < 0 || k >= MOST_KNOBS) {
                    return false;
                }
                times[k]++;
                pushes++;
                int x = (int) cut(at, high);
                at = placeAt(x - wideBy[k] + wide, at - x * high - highBy[k] + high);
            }
            return at == 0;
        }

        /** For numbers that are on their dials, or once around beyond: what is most asked does not divide. */
        private int placeAt(int x, int y) {
            return (x < wide ? x : x - wide) * high + (y < high ? y : y - high);
        }

        private int pushesOf(int knob) {
            return knob >= 0 && knob < knobs && knob < MOST_KNOBS ? times[knob] : NONE;
        }

        private boolean isMet(int place) {
            return linkAt(place) != 0;
        }

        private int knobTo(int place) {
            return (linkAt(place) & KNOB_MASK) - 1;
        }

        private int linkAt(int place) {
            return place >= 0 && place < links.length ? links[place] : 0;
        }

        private void addToLink(int place, int more) {
            if (place >= 0 && place < links.length) {
                links[place] += more;
            }
        }
    }

    // ---- storms

    private static final class Storm {
        private int hands = 0;
        private final int[] marks = new int[MOST_HANDS];
        private final int[] lost = new int[MOST_HANDS];
        private long drawn = 0;

        /** How many days are lost in all. */
        private int blowOver(State state, int seed, int day, int n) {
            drawn = seed;
            hands = state.handCount;
            for (int h = 0; h < MOST_HANDS; h++) {
                lost[h] = 0;
            }
            int lostInAll = 0;
            for (int i = 0; i < n; i++) {
                for (int h = 0; h < hands && h < MOST_HANDS; h++) {
                    if (draw(10) == 0) {
                        lost[h]++;
                        lostInAll++;
                    }
                }
            }
            for (int h = 0; h < hands && h < MOST_HANDS; h++) {
                Hand told = state.handAt(h);
                // a lost day never was for that hand, for its gap as well
                marks[h] = told == null ? NONE : told.markOn(day + n - lost[h]);
            }
            return lostInAll;
        }

        private long draw(int m) {
            drawn = (drawn * 1103 + 12345) % 1000003;
            return remainder(drawn, m);
        }

        private int markOf(int hand) {
            return hand >= 0 && hand < hands && hand < MOST_HANDS ? marks[hand] : NONE;
        }

        private int lostBy(int hand) {
            return hand >= 0 && hand < hands && hand < MOST_HANDS ? lost[hand] : NONE;
        }
    }
}
