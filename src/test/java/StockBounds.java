/** Bounds of promises 7 to 14: the stock, terms, the tape, rows of stock. */
final class StockBounds {
    private static final int NONE = Bounds.NONE;

    private static void due(String call, long got, long want) {
        Bounds.due(call, got, want);
    }

    private static WheelYear stockOf(int wheels) {
        WheelYear x = new WheelYear();
        for (int i = 0; i < wheels; i++) {
            x.wheel(20 + i);
        }
        return x;
    }

    private static WheelYear tapeOf(int bytes) {
        WheelYear x = new WheelYear();
        for (int i = 0; i < bytes; i += 20) {
            x.feed(0, 0, 0, 0, 0);
        }
        x.end(bytes);
        return x;
    }

    // ---- Promise 7: "A wheel of the STOCK: its number. -1; -5."

    static void promise07_teethFrom6To120() {
        WheelYear x = new WheelYear();
        due("wheel(6)", x.wheel(6), 0);
        due("wheel(120)", x.wheel(120), 1);
        due("teeth(0)", x.teeth(0), 6);
        due("teeth(1)", x.teeth(1), 120);
    }

    static void promise07_otherTeethCantBe() {
        WheelYear x = new WheelYear();
        for (int teeth : new int[] {5, 121, 0, -6, Bounds.LEAST, Bounds.MOST}) {
            due("wheel(" + teeth + ")", x.wheel(teeth), -1);
        }
        due("none came", x.count(1), 0);
        due("refused by -1", x.count(6), 6);
    }

    static void promise07_twelveAtMost() {
        WheelYear x = new WheelYear();
        for (int i = 0; i < 12; i++) {
            due("wheel " + i, x.wheel(20 + i), i);
        }
        due("the 13th", x.wheel(20), -5);
        due("count(1)", x.count(1), 12);
        due("teeth(12)", x.teeth(12), NONE);
        due("teeth(11)", x.teeth(11), 31);
    }

    static void promise07_cantBeAheadOfNoRoom() {
        WheelYear x = stockOf(12);
        due("wheel(5) when full", x.wheel(5), -1);
        due("wheel(121) when full", x.wheel(121), -1);
        due("refused by -5", x.count(8), 0);
    }

    // ---- Promise 8: "A wheel of the STOCK goes, those behind it move up: how many are left. -2."

    static void promise08_theFirstTheLastOneBetween() {
        WheelYear x = stockOf(12);
        due("drop(0)", x.drop(0), 11);
        due("drop(10)", x.drop(10), 10);
        due("drop(4)", x.drop(4), 9);
        int[] left = {21, 22, 23, 24, 26, 27, 28, 29, 30};
        for (int i = 0; i < left.length; i++) {
            due("teeth(" + i + ")", x.teeth(i), left[i]);
        }
        due("teeth(9)", x.teeth(9), NONE);
    }

    static void promise08_ofAFullStockAllMoveUp() {
        WheelYear x = stockOf(12);
        due("drop(0)", x.drop(0), 11);
        for (int i = 0; i < 11; i++) {
            due("teeth(" + i + ")", x.teeth(i), 21 + i);
        }
        due("teeth(11)", x.teeth(11), NONE);
        WheelYear y = stockOf(12);
        due("drop(10)", y.drop(10), 11);
        due("teeth(9)", y.teeth(9), 29);
        due("teeth(10)", y.teeth(10), 31);
        WheelYear z = stockOf(12);
        due("drop(11)", z.drop(11), 11);
        due("teeth(10)", z.teeth(10), 30);
    }

    static void promise08_theOnlyOne() {
        WheelYear x = stockOf(1);
        due("drop(0)", x.drop(0), 0);
        due("teeth(0)", x.teeth(0), NONE);
        due("drop(0) of none", x.drop(0), -2);
    }

    static void promise08_thereIsRoomAgain() {
        WheelYear x = stockOf(12);
        x.drop(5);
        due("wheel", x.wheel(99), 11);
        due("its teeth", x.teeth(11), 99);
        due("the 13th", x.wheel(99), -5);
    }

    static void promise08_noSuchWheel() {
        WheelYear x = stockOf(3);
        for (int wheel : new int[] {-1, 3, 12, Bounds.LEAST, Bounds.MOST}) {
            due("drop(" + wheel + ")", x.drop(wheel), -2);
        }
        due("all are there", x.count(1), 3);
        due("refused by -2", x.count(7), 5);
    }

    static void promise08_trainsKeepTheirWheels() {
        WheelYear x = Bounds.hands(1, 12);
        Bounds.stock(x, 10, 20);
        x.mount(0, 1, 2);
        x.drop(0);
        due("of(0, 4)", x.of(0, 4), 10);
        due("of(0, 5)", x.of(0, 5), 20);
    }

    // ---- Promise 9: "Teeth of a wheel of the STOCK. NONE."

    static void promise09_noneForNoSuchWheel() {
        WheelYear x = stockOf(3);
        for (int wheel : new int[] {-1, 3, 11, 12, Bounds.LEAST, Bounds.MOST}) {
            due("teeth(" + wheel + ")", x.teeth(wheel), NONE);
        }
        due("teeth(2)", x.teeth(2), 22);
        due("it is not REFUSED", x.count(7), 0);
    }

    // ---- Promise 10: "A TERM: what it was. -1." and "WEAR 1 .. 1,000,000 (10,000 at first)"

    static void promise10_wearIs10000AtFirst() {
        WheelYear x = new WheelYear();
        due("count(11)", x.count(11), 10000);
        due("terms(0, 10000)", x.terms(0, 10000), 10000);
    }

    static void promise10_wearFrom1To1000000() {
        WheelYear x = new WheelYear();
        due("terms(0, 1)", x.terms(0, 1), 10000);
        due("terms(0, 1000000)", x.terms(0, 1000000), 1);
        due("count(11)", x.count(11), 1000000);
    }

    static void promise10_otherWearCantBe() {
        WheelYear x = new WheelYear();
        for (int wear : new int[] {0, -1, 1000001, Bounds.LEAST, Bounds.MOST}) {
            due("terms(0, " + wear + ")", x.terms(0, wear), -1);
        }
        due("it stays", x.count(11), 10000);
    }

    static void promise10_thereIsTerm0Alone() {
        WheelYear x = new WheelYear();
        for (int what : new int[] {-1, 1, 2, Bounds.LEAST, Bounds.MOST}) {
            due("terms(" + what + ", 5)", x.terms(what, 5), -1);
        }
        due("it stays", x.count(11), 10000);
    }

    // ---- Promise 11: "Twenty bytes come behind the TAPE, four of each number, the highest first: how many it has.
    // NONE, if there would be more than 400."

    static void promise11_fourOfEachTheHighestFirst() {
        WheelYear x = new WheelYear();
        due("feed", x.feed(0x06070809, 0x0a0b0c05, 0x05050505, 0x05050505, 0x05050578), 20);
        due("row()", x.row(), 8);
        int[] teeth = {6, 7, 8, 9, 10, 11, 12, 120};
        for (int i = 0; i < teeth.length; i++) {
            due("teeth(" + i + ")", x.teeth(i), teeth[i]);
        }
    }

    static void promise11_allFiveNumbersInTheirOrder() {
        WheelYear x = new WheelYear();
        x.feed(0x00000006, 0x00000700, 0x00080000, 0x09000000, 0x0000000a);
        due("row()", x.row(), 5);
        for (int i = 0; i < 5; i++) {
            due("teeth(" + i + ")", x.teeth(i), 6 + i);
        }
    }

    static void promise11_numbersBelow0AreBytesToo() {
        WheelYear x = new WheelYear();
        x.feed(0xff060780, -1, Bounds.LEAST, 0x88ff7879, -1);
        due("row()", x.row(), 3);
        due("teeth(0)", x.teeth(0), 6);
        due("teeth(1)", x.teeth(1), 7);
        due("teeth(2)", x.teeth(2), 120);
        due("bent()", x.bent(), 17);
    }

    static void promise11_400AtMost() {
        WheelYear x = new WheelYear();
        for (int i = 1; i <= 20; i++) {
            due("feed " + i, x.feed(0, 0, 0, 0, 0), 20 * i);
        }
        due("the 21st", x.feed(0, 0, 0, 0, 0), NONE);
        due("count(5)", x.count(5), 400);
    }

    static void promise11_380IsTheLastThatHasRoom() {
        WheelYear x = tapeOf(380);
        due("feed behind 380", x.feed(0, 0, 0, 0, 0), 400);
        WheelYear y = tapeOf(381);
        due("feed behind 381", y.feed(0, 0, 0, 0, 0), NONE);
        due("nothing came", y.count(5), 381);
        due("it is not REFUSED", y.count(8), 0);
        due("status()", y.status(), 0);
    }

    static void promise11_behindAShortenedTape() {
        WheelYear x = new WheelYear();
        x.feed(0x06060606, 0, 0, 0, 0);
        x.end(1);
        due("feed", x.feed(0x07070707, 0, 0, 0, 0), 21);
        due("row()", x.row(), 5);
        due("teeth(0)", x.teeth(0), 6);
        due("teeth(1)", x.teeth(1), 7);
    }

    // ---- Promise 12: "The TAPE has its first n bytes alone: n. NONE, if it has not so many, or n is below 0."

    static void promise12_from0ToAllThatItHas() {
        WheelYear x = tapeOf(400);
        due("end(400)", x.end(400), 400);
        due("end(399)", x.end(399), 399);
        due("count(5)", x.count(5), 399);
        due("end(0)", x.end(0), 0);
        due("count(5)", x.count(5), 0);
        due("end(0) of none", x.end(0), 0);
    }

    static void promise12_noneIfItHasNotSoMany() {
        WheelYear x = tapeOf(20);
        due("end(21)", x.end(21), NONE);
        due("end(most)", x.end(Bounds.MOST), NONE);
        due("count(5)", x.count(5), 20);
        x.end(5);
        due("end(6)", x.end(6), NONE);
        due("end(20)", x.end(20), NONE);
        due("end(1) of none", new WheelYear().end(1), NONE);
    }

    static void promise12_noneBelow0() {
        WheelYear x = tapeOf(20);
        due("end(-1)", x.end(-1), NONE);
        due("end(least)", x.end(Bounds.LEAST), NONE);
        due("count(5)", x.count(5), 20);
        due("it is not REFUSED", x.count(6), 0);
    }

    static void promise12_theFirstBytesStay() {
        WheelYear x = new WheelYear();
        x.feed(0x06070809, 0, 0, 0, 0);
        x.end(2);
        due("row()", x.row(), 2);
        due("teeth(0)", x.teeth(0), 6);
        due("teeth(1)", x.teeth(1), 7);
        due("bent()", x.bent(), 0);
    }

    static void promise12_whatIsBehindThemIsNotReadAgain() {
        WheelYear x = Bounds.hands(1, 12);
        Check.tape(x, "shows 1234 if day=0");
        x.end(7);
        x.law();
        x.force(0);
        due("digits behind the end", x.should(0, 5), 1);
        Check.tape(x, "shows daylight");
        x.end(9);
        due("letters behind the end", x.law(), 1);
        Check.tape(x, "shows 1 if day=0");
        x.end(8);
        due("words behind the end", x.law(), 2);
        Check.tape(x, "shows 1;shows 2");
        x.end(8);
        due("a CLAUSE behind the end", x.law(), -6);
        due("fault()", x.fault(), 8);
    }

    // ---- Promise 13: "A ROW of STOCK, the TAPE is empty then: how many came. -6 the TAPE is empty." and "one that can't
    // be, one for which there is no room is BENT: none"

    static void promise13_anEmptyTapeCantBe() {
        WheelYear x = new WheelYear();
        due("row()", x.row(), -6);
        x.feed(0x06060606, 0, 0, 0, 0);
        x.end(0);
        due("row() behind end(0)", x.row(), -6);
        due("refused by -6", x.count(9), 2);
    }

    static void promise13_teethThatCantBeAreBent() {
        WheelYear x = new WheelYear();
        x.feed(0x05067879, 0x00ff0780, 0, 0, 0);
        x.end(8);
        due("row()", x.row(), 3);
        due("teeth(0)", x.teeth(0), 6);
        due("teeth(1)", x.teeth(1), 120);
        due("teeth(2)", x.teeth(2), 7);
        due("bent()", x.bent(), 5);
        due("it is not REFUSED by -1", x.count(6), 0);
    }

    static void promise13_thoseWithoutRoomAreBent() {
        WheelYear x = stockOf(10);
        Check.tape(x, "dcba");
        due("row()", x.row(), 2);
        due("count(1)", x.count(1), 12);
        due("teeth(10)", x.teeth(10), 'd');
        due("teeth(11)", x.teeth(11), 'c');
        due("bent()", x.bent(), 2);
        due("it is not REFUSED by -5", x.count(8), 0);
        due("status()", x.status(), 0);
    }

    static void promise13_aFullStockTakesNone() {
        WheelYear x = stockOf(12);
        Check.tape(x, "dcba");
        due("row()", x.row(), 0);
        due("status()", x.status(), 0);
        due("bent()", x.bent(), 4);
    }

    static void promise13_allBentIsNotRefused() {
        WheelYear x = tapeOf(400);
        due("row()", x.row(), 0);
        due("status()", x.status(), 0);
        due("bent()", x.bent(), 400);
        due("count(5)", x.count(5), 0);
    }

    static void promise13_theTapeIsEmptyThen() {
        WheelYear x = new WheelYear();
        Check.tape(x, "abc");
        due("row()", x.row(), 3);
        due("count(5)", x.count(5), 0);
        due("row() again", x.row(), -6);
        due("count(1)", x.count(1), 3);
    }

    static void promise13_comesBehindTheStock() {
        WheelYear x = stockOf(2);
        Check.tape(x, "a");
        due("row()", x.row(), 1);
        due("teeth(0)", x.teeth(0), 20);
        due("teeth(2)", x.teeth(2), 'a');
    }

    // ---- Promise 14: "How many were BENT in the latest row() that was not REFUSED (0 ahead of any)."

    static void promise14_0AheadOfAny() {
        WheelYear x = new WheelYear();
        due("bent()", x.bent(), 0);
        x.row();
        due("bent() behind a REFUSED one", x.bent(), 0);
    }

    static void promise14_aRefusedRowLeavesIt() {
        WheelYear x = tapeOf(7);
        x.row();
        due("row()", x.row(), -6);
        due("bent()", x.bent(), 7);
    }

    static void promise14_ofTheLatestAlone() {
        WheelYear x = tapeOf(7);
        x.row();
        Check.tape(x, "a~");
        x.row();
        due("bent()", x.bent(), 1);
        Check.tape(x, "a");
        x.row();
        due("bent() of a whole one", x.bent(), 0);
    }

    static void promise14_wheelsThatAreRefusedAreNotBent() {
        WheelYear x = stockOf(12);
        x.wheel(5);
        x.wheel(50);
        due("bent()", x.bent(), 0);
    }
}
