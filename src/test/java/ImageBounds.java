/** Bounds of promises 39 to 42: images, counts, what calls were refused by. */
final class ImageBounds {
    private static final int NONE = Bounds.NONE;
    private static final int[] NO_IMAGES = {-1, 2, Bounds.LEAST, Bounds.MOST};

    private static void due(String call, long got, long want) {
        Bounds.due(call, got, want);
    }

    // ---- Promise 39: "IMAGE k is kept: 0; -1."

    static void promise39_images0And1() {
        WheelYear x = new WheelYear();
        due("image(0)", x.image(0), 0);
        due("image(1)", x.image(1), 0);
        due("status()", x.status(), 0);
    }

    static void promise39_otherImagesCantBe() {
        WheelYear x = new WheelYear();
        for (int k : NO_IMAGES) {
            due("image(" + k + ")", x.image(k), -1);
        }
        due("refused by -1", x.count(6), NO_IMAGES.length);
        due("none was kept", x.back(0), -2);
        due("none was kept", x.back(1), -2);
    }

    static void promise39_keptAnewItForgetsTheEarlier() {
        WheelYear x = new WheelYear();
        x.terms(0, 3);
        x.image(0);
        x.terms(0, 4);
        x.image(0);
        x.terms(0, 5);
        x.back(0);
        due("WEAR", x.count(11), 4);
    }

    static void promise39_theTwoDoNotTouchEachOther() {
        WheelYear x = new WheelYear();
        x.terms(0, 3);
        x.image(0);
        x.terms(0, 4);
        x.image(1);
        x.terms(0, 5);
        x.back(0);
        due("WEAR of 0", x.count(11), 3);
        x.back(1);
        due("WEAR of 1", x.count(11), 4);
        x.back(0);
        due("WEAR of 0 again", x.count(11), 3);
    }

    static void promise39_keepingChangesNothing() {
        WheelYear x = Bounds.hands(2, 12);
        x.put(0, 0, 5);
        x.image(0);
        due("HANDS", x.count(0), 2);
        due("OFFSET", x.of(0, 1), 5);
    }

    // ---- Promise 40: "BACK to IMAGE k: 0. -1; -2 it was not kept." and "BACK to one all that it keeps is as it was then
    // (IMAGES stay)"

    static void promise40_otherImagesCantBe() {
        WheelYear x = new WheelYear();
        x.image(0);
        x.image(1);
        for (int k : NO_IMAGES) {
            due("back(" + k + ")", x.back(k), -1);
        }
        due("refused by -2", x.count(7), 0);
    }

    static void promise40_itWasNotKept() {
        WheelYear x = Bounds.hands(1, 12);
        due("back(0)", x.back(0), -2);
        due("back(1)", x.back(1), -2);
        x.image(1);
        due("back(0)", x.back(0), -2);
        due("back(1)", x.back(1), 0);
        due("all is there", x.count(0), 1);
        WheelYear y = new WheelYear();
        y.image(0);
        due("back(1)", y.back(1), -2);
        due("back(0)", y.back(0), 0);
    }

    static void promise40_toAnEmptyClock() {
        WheelYear x = new WheelYear();
        x.image(0);
        fill(x);
        due("back(0)", x.back(0), 0);
        for (int what = 0; what <= 4; what++) {
            due("count(" + what + ")", x.count(what), 0);
        }
        due("FORCE", x.count(10), NONE);
        due("WEAR", x.count(11), 10000);
        due("of(0, 0)", x.of(0, 0), NONE);
        due("teeth(0)", x.teeth(0), NONE);
    }

    /** Every kind of thing to its most. */
    private static void fill(WheelYear x) {
        for (int h = 0; h < 6; h++) {
            x.hand(20 + h);
            x.put(h, 0, 10 + h);
            x.put(h, 1, 30 + h);
            for (int i = 0; i < 4; i++) {
                x.pair(h, 40 + h, 50 + i);
            }
        }
        for (int w = 0; w < 12; w++) {
            x.wheel(60 + w);
        }
        for (int l = 0; l < 6; l++) {
            Check.law(x, "shows " + (70 + l));
        }
        x.force(5);
        x.terms(0, 80);
        for (int s = 0; s < 10; s++) {
            x.sight(s % 6, 0, (10 + s % 6) % 20);
        }
        for (int k = 0; k < 4; k++) {
            x.knob();
            for (int h = 0; h < 6; h++) {
                x.push(k, h, (k + h) % 10);
            }
        }
    }

    /** Every kind of thing otherwise than filled, and as many of each as there is room for. */
    private static void fillOtherwise(WheelYear x) {
        for (int h = 0; h < 6; h++) {
            x.hand(100);
            for (int i = 0; i < 4; i++) {
                x.pair(h, 120, 6);
            }
        }
        for (int w = 0; w < 12; w++) {
            x.wheel(7);
        }
        for (int l = 0; l < 6; l++) {
            Check.law(x, "shows 9");
        }
        x.force(0);
        x.terms(0, 81);
        for (int s = 0; s < 10; s++) {
            x.sight(0, 9, 9);
        }
        for (int k = 0; k < 4; k++) {
            x.knob();
            for (int h = 0; h < 6; h++) {
                x.push(k, h, 9);
            }
        }
    }

    private static void dueFilled(WheelYear x) {
        int[] most = {6, 12, 6, 10, 4};
        for (int what = 0; what < most.length; what++) {
            due("count(" + what + ")", x.count(what), most[what]);
        }
        for (int h = 0; h < 6; h++) {
            int[] of = {20 + h, 10 + h, 30 + h, 4, 40 + h, 50, 40 + h, 51, 40 + h, 52, 40 + h, 53};
            for (int what = 0; what < of.length; what++) {
                due("of(" + h + ", " + what + ")", x.of(h, what), of[what]);
            }
            due("SIGHTS of HAND " + h, x.gone(h, 0), 399);
            long drivers = (40L + h) * (40 + h) * (40 + h) * (40 + h);
            long driven = 50L * 51 * 52 * 53;
            due("RATE of HAND " + h, x.rate(h, 0) * driven, x.rate(h, 1) * drivers);
            due("HAND " + h + " on day 29", x.shows(h, 29, 0), (29 * drivers * (20 + h) / driven + 10 + h) % (20 + h));
        }
        for (int w = 0; w < 12; w++) {
            due("teeth(" + w + ")", x.teeth(w), 60 + w);
        }
        due("FORCE", x.count(10), 5);
        for (int l = 0; l < 6; l++) {
            x.force(l);
            due("LAW " + l, x.should(0, 0), 70 + l);
        }
        due("WEAR", x.count(11), 80);
        for (int k = 0; k < 4; k++) {
            for (int h = 0; h < 6; h++) {
                due("push(" + k + ", " + h + ", ..)", x.push(k, h, (k + h) % 10), (k + h) % 10);
            }
        }
    }

    static void promise40_allThatIsKept() {
        WheelYear x = new WheelYear();
        x.image(1);
        fill(x);
        x.image(0);
        x.back(1);
        fillOtherwise(x);
        due("back(0)", x.back(0), 0);
        dueFilled(x);
    }

    static void promise40_imagesStay() {
        WheelYear x = new WheelYear();
        x.image(1);
        fill(x);
        x.image(0);
        for (int i = 0; i < 2; i++) {
            due("back(1)", x.back(1), 0);
            due("count(0)", x.count(0), 0);
            due("back(0)", x.back(0), 0);
            x.strip(0);
            x.drop(0);
            x.put(1, 0, 0);
            x.put(2, 1, 0);
            x.force(NONE);
            x.terms(0, 1);
            x.forget();
            x.push(3, 5, 9);
            due("back(0) again", x.back(0), 0);
        }
        dueFilled(x);
    }

    static void promise40_lawsGoBackToo() {
        WheelYear x = Bounds.hands(1, 12);
        Check.law(x, "shows 1");
        x.image(0);
        due("the second", Check.law(x, "shows 2"), 1);
        x.force(1);
        x.back(0);
        due("count(2)", x.count(2), 1);
        due("FORCE", x.count(10), NONE);
        due("force(1)", x.force(1), -2);
        due("another second", Check.law(x, "shows 3"), 1);
        x.force(1);
        due("should(0, 0)", x.should(0, 0), 3);
    }

    static void promise40_whatIsMadeBehindItIsNew() {
        WheelYear x = new WheelYear();
        x.image(0);
        fill(x);
        x.back(0);
        due("hand", x.hand(7), 0);
        int[] of = {7, 0, 0, 0, NONE, NONE};
        for (int what = 0; what < of.length; what++) {
            due("of(0, " + what + ")", x.of(0, what), of[what]);
        }
        due("RATE", x.rate(0, 0), 1);
        due("RATE", x.rate(0, 1), 1);
        due("knob", x.knob(), 0);
        due("push", x.push(0, 0, 1), 0);
        due("sight", x.sight(0, 0, 0), 1);
        due("wheel", x.wheel(6), 0);
    }

    static void promise40_theTapeIsNotKept() {
        WheelYear x = new WheelYear();
        x.feed(0, 0, 0, 0, 0);
        x.image(0);
        x.feed(0, 0, 0, 0, 0);
        x.back(0);
        due("count(5)", x.count(5), 40);
        x.end(0);
        x.back(0);
        due("count(5)", x.count(5), 0);
    }

    static void promise40_faultIsNotKept() {
        WheelYear x = new WheelYear();
        Check.law(x, "shows 1 1");
        x.image(0);
        Check.law(x, "show");
        x.back(0);
        due("fault()", x.fault(), 0);
    }

    static void promise40_bentIsNotKept() {
        WheelYear x = new WheelYear();
        Check.tape(x, "~~");
        x.row();
        x.image(0);
        Check.tape(x, "~~~a");
        x.row();
        x.back(0);
        due("bent()", x.bent(), 3);
        due("count(1)", x.count(1), 0);
    }

    static void promise40_theLatestStormIsNotKept() {
        WheelYear x = Bounds.dayHand();
        x.storm(5, 10, 1);
        x.image(0);
        x.storm(2, 20, 1);
        x.back(0);
        due("stormed(0, 0)", x.stormed(0, 0), 21);
        due("stormed(0, 1)", x.stormed(0, 1), 0);
    }

    static void promise40_countsOfRefusalsAreNotKept() {
        WheelYear x = new WheelYear();
        x.image(0);
        x.hand(0);
        x.strip(0);
        for (int i = 0; i <= 4; i++) {
            x.knob();
        }
        x.row();
        x.back(0);
        for (int what = 6; what <= 9; what++) {
            due("count(" + what + ")", x.count(what), 1);
        }
    }

    static void promise40_aRefusedOneChangesNothing() {
        WheelYear x = Bounds.hands(1, 12);
        x.image(0);
        x.hand(13);
        x.back(1);
        x.back(2);
        due("count(0)", x.count(0), 2);
    }

    // ---- Promise 41: "0 HANDS, 1 wheels of the STOCK, .. 11 WEAR. NONE for others."

    static void promise41_noneForOthers() {
        WheelYear x = new WheelYear();
        for (int what : new int[] {-1, 12, 13, Bounds.LEAST, Bounds.MOST}) {
            due("count(" + what + ")", x.count(what), NONE);
        }
    }

    static void promise41_fromNoneToTheMost() {
        WheelYear x = new WheelYear();
        int[] none = {0, 0, 0, 0, 0, 0, 0, 0, 0, 0, NONE, 10000};
        for (int what = 0; what < none.length; what++) {
            due("count(" + what + ") of none", x.count(what), none[what]);
        }
        fill(x);
        for (int i = 0; i < 20; i++) {
            x.feed(0, 0, 0, 0, 0);
        }
        int[] most = {6, 12, 6, 10, 4, 400, 0, 0, 0, 0, 5, 80};
        for (int what = 0; what < most.length; what++) {
            due("count(" + what + ") of the most", x.count(what), most[what]);
        }
    }

    static void promise41_eachKindOfRefusalOnItsOwn() {
        WheelYear x = new WheelYear();
        x.hand(0);
        due("-1", x.count(6), 1);
        x.strip(0);
        x.strip(0);
        due("-2", x.count(7), 2);
        for (int i = 0; i < 7; i++) {
            x.knob();
        }
        due("-5", x.count(8), 3);
        for (int i = 0; i < 4; i++) {
            x.row();
        }
        due("-6", x.count(9), 4);
        due("-1", x.count(6), 1);
        due("-2", x.count(7), 2);
        due("-5", x.count(8), 3);
    }

    static void promise41_refusedByTheFirstOfTheReasonsAlone() {
        WheelYear x = Bounds.hands(6, 12);
        x.hand(0);
        x.pair(9, 5, 6);
        x.sight(9, -1, 0);
        due("-1", x.count(6), 3);
        due("-2", x.count(7), 0);
        due("-5", x.count(8), 0);
    }

    static void promise41_answersOfMinus1ThatAreNoRefusals() {
        WheelYear x = Bounds.hands(1, 12);
        x.force(NONE);
        due("force(NONE) answers NONE and is not REFUSED", x.status(), 0);
        x.end(-1);
        x.of(9, 9);
        x.worn(9);
        due("-1", x.count(6), 0);
        due("-2", x.count(7), 0);
    }

    // ---- Promise 42: "What the latest call of hand, put, .. back was REFUSED by; 0 if it was not, or ahead of any."

    static void promise42_0AheadOfAny() {
        WheelYear x = new WheelYear();
        due("status()", x.status(), 0);
        x.end(-1);
        x.of(0, 0);
        due("status() behind calls that are not told of", x.status(), 0);
    }

    private static void dueStatus(WheelYear x, String call, int answer, int want) {
        due(call, answer, want);
        due("status() behind " + call, x.status(), want);
    }

    static void promise42_minus1OfEachCallThatHasIt() {
        WheelYear x = Bounds.hands(1, 12);
        dueStatus(x, "hand", x.hand(0), -1);
        reset(x);
        dueStatus(x, "put", x.put(0, 0, -1), -1);
        reset(x);
        dueStatus(x, "put behind -2", x.put(0, 0, 12), -1);
        reset(x);
        dueStatus(x, "pair", x.pair(0, 5, 6), -1);
        reset(x);
        dueStatus(x, "wheel", x.wheel(5), -1);
        reset(x);
        dueStatus(x, "terms", x.terms(1, 1), -1);
        reset(x);
        dueStatus(x, "mount", x.mount(0, 0, 1), -1);
        reset(x);
        dueStatus(x, "sight", x.sight(0, -1, 0), -1);
        reset(x);
        dueStatus(x, "sight behind -2", x.sight(0, 0, 12), -1);
        reset(x);
        dueStatus(x, "push", x.push(0, 0, 10), -1);
        reset(x);
        dueStatus(x, "storm", x.storm(0, 0, 0), -1);
        reset(x);
        dueStatus(x, "image", x.image(2), -1);
        reset(x);
        dueStatus(x, "back", x.back(2), -1);
    }

    /** A call that is never refused, so that the one before it is no longer the latest. */
    private static void reset(WheelYear x) {
        x.force(NONE);
        due("status() behind force(NONE)", x.status(), 0);
    }

    static void promise42_minus2OfEachCallThatHasIt() {
        WheelYear x = new WheelYear();
        dueStatus(x, "put", x.put(0, 0, 0), -2);
        reset(x);
        dueStatus(x, "pair", x.pair(0, 6, 6), -2);
        reset(x);
        dueStatus(x, "strip", x.strip(0), -2);
        reset(x);
        dueStatus(x, "drop", x.drop(0), -2);
        reset(x);
        dueStatus(x, "force", x.force(0), -2);
        reset(x);
        dueStatus(x, "mount", x.mount(0, 1, 1), -2);
        reset(x);
        dueStatus(x, "sight", x.sight(0, 0, 0), -2);
        reset(x);
        dueStatus(x, "push", x.push(0, 0, 0), -2);
        reset(x);
        dueStatus(x, "back", x.back(0), -2);
    }

    static void promise42_minus5OfEachCallThatHasIt() {
        WheelYear x = new WheelYear();
        fill(x);
        dueStatus(x, "hand", x.hand(1), -5);
        reset(x);
        dueStatus(x, "pair", x.pair(0, 6, 6), -5);
        reset(x);
        dueStatus(x, "wheel", x.wheel(6), -5);
        reset(x);
        dueStatus(x, "law", x.law(), -5);
        reset(x);
        dueStatus(x, "sight", x.sight(0, 0, 0), -5);
        reset(x);
        dueStatus(x, "knob", x.knob(), -5);
        due("refused by -5", x.count(8), 6);
    }

    static void promise42_minus6OfEachCallThatHasIt() {
        WheelYear x = new WheelYear();
        dueStatus(x, "row", x.row(), -6);
        reset(x);
        dueStatus(x, "law", x.law(), -6);
        due("refused by -6", x.count(9), 2);
    }

    private static void dueGood(WheelYear x, String call, int answer, int want) {
        due(call, answer, want);
        due("status() behind " + call, x.status(), 0);
        x.strip(9);
        due("status() behind strip(9)", x.status(), -2);
    }

    static void promise42_0BehindEachThatWasNotRefused() {
        WheelYear x = new WheelYear();
        x.strip(9);
        dueGood(x, "hand", x.hand(12), 0);
        dueGood(x, "put OFFSET", x.put(0, 0, 3), 0);
        dueGood(x, "put GAP", x.put(0, 1, 3), 0);
        dueGood(x, "pair", x.pair(0, 6, 6), 1);
        dueGood(x, "strip", x.strip(0), 1);
        dueGood(x, "wheel", x.wheel(6), 0);
        dueGood(x, "drop", x.drop(0), 0);
        dueGood(x, "terms", x.terms(0, 7), 10000);
        Check.tape(x, "ab");
        dueGood(x, "row", x.row(), 2);
        Check.tape(x, "shows 1");
        dueGood(x, "law", x.law(), 0);
        dueGood(x, "force", x.force(0), NONE);
        dueGood(x, "mount", x.mount(0, 1, 1), 1);
        dueGood(x, "sight", x.sight(0, 0, 0), 1);
        dueGood(x, "knob", x.knob(), 0);
        dueGood(x, "push", x.push(0, 0, 1), 0);
        dueGood(x, "storm", x.storm(0, 0, 1), 0);
        dueGood(x, "image", x.image(0), 0);
        dueGood(x, "back", x.back(0), 0);
    }

    /** Calls that are not told of in promise 42: good ones and ones that answer NONE. */
    private static void askAll(WheelYear x, int n) {
        x.of(n, n);
        x.teeth(n);
        x.feed(n, n, n, n, n);
        x.end(n);
        x.bent();
        x.fault();
        x.rate(n, n);
        x.shows(n, n, n);
        x.should(n, n);
        x.wrong(n, n, n, n);
        x.off(n, n, n, n);
        x.nearest(n, n, n);
        x.near(n, n, n);
        x.cam(n, n);
        x.forget();
        x.inside(n, n);
        x.gone(n, n);
        x.together(n, n, n, n, n);
        x.set(n, n, n, n, n, n);
        x.worn(n);
        x.shared();
        x.stormed(n, n);
        x.count(n);
        x.status();
    }

    static void promise42_otherCallsLeaveIt() {
        for (int n : new int[] {0, 1, -1, 9, 500, Bounds.LEAST, Bounds.MOST}) {
            WheelYear x = Bounds.hands(2, 12);
            Bounds.stock(x, 10, 20);
            x.strip(9);
            askAll(x, n);
            due("-2 behind all with " + n, x.status(), -2);
            due("refused by -2", x.count(7), 1);
            x.force(NONE);
            askAll(x, n);
            due("0 behind all with " + n, x.status(), 0);
            due("refused by -1", x.count(6), 0);
            due("refused by -5", x.count(8), 0);
            due("refused by -6", x.count(9), 0);
        }
    }
}
