/** Bounds of promises 15 and 16: texts that become laws, and the first token that can't go on. */
final class TextBounds {
    private static final int NONE = Bounds.NONE;

    private static void due(String call, long got, long want) {
        Bounds.due(call, got, want);
    }

    /** The text is read on a new object: place NONE, if it is a law. */
    private static void fault(String text, int place) {
        WheelYear x = new WheelYear();
        Check.tape(x, text);
        due("bytes of " + text, x.count(5), text.length());
        due("law() of " + text, x.law(), place == NONE ? 0 : -6);
        due("fault() of " + text, x.fault(), place);
        due("LAWS behind " + text, x.count(2), place == NONE ? 1 : 0);
    }

    private static String joined(String one, String between, int howMany) {
        return one + (between + one).repeat(howMany - 1);
    }

    // ---- Promise 15: "The TAPE, which is empty then, becomes a LAW: its number. -5 (ahead of reading it; the TAPE is
    // empty then, too); -6 (blanks alone: FAULT at the end)."

    static void promise15_sixAtMost() {
        WheelYear x = new WheelYear();
        for (int i = 0; i < 6; i++) {
            due("law " + i, Check.law(x, "shows " + i), i);
        }
        due("the seventh", Check.law(x, "shows 6"), -5);
        due("count(2)", x.count(2), 6);
        due("refused by -5", x.count(8), 1);
    }

    static void promise15_theTapeIsEmptyThen() {
        WheelYear x = new WheelYear();
        Check.law(x, "shows 1");
        due("behind a LAW", x.count(5), 0);
        Check.law(x, "shows");
        due("behind -6", x.count(5), 0);
        for (int i = 1; i < 6; i++) {
            Check.law(x, "shows 1");
        }
        due("the seventh", Check.law(x, "shows 1"), -5);
        due("behind -5", x.count(5), 0);
    }

    static void promise15_noRoomIsAheadOfReading() {
        WheelYear x = new WheelYear();
        for (int i = 0; i < 6; i++) {
            Check.law(x, "shows 1");
        }
        due("a TEXT that can't be", Check.law(x, "shows"), -5);
        due("an empty TAPE", x.law(), -5);
        due("blanks", Check.law(x, "  "), -5);
        due("FAULT is of the latest that was read", x.fault(), NONE);
        due("refused by -6", x.count(9), 0);
    }

    static void promise15_blanksAlone() {
        fault(" ", 1);
        fault("     ", 5);
        fault(" ".repeat(400), 400);
    }

    static void promise15_anEmptyTape() {
        WheelYear x = new WheelYear();
        due("law()", x.law(), -6);
        due("fault()", x.fault(), 0);
        due("count(2)", x.count(2), 0);
    }

    static void promise15_aTextThatCantBeIsNoLaw() {
        WheelYear x = Bounds.hands(1, 12);
        due("law()", Check.law(x, "shows 1 if"), -6);
        due("force(0)", x.force(0), -2);
        due("the next one's number", Check.law(x, "shows 1"), 0);
    }

    static void promise15_aTapeOf400Bytes() {
        fault("shows 1" + " ".repeat(393), NONE);
        fault(" ".repeat(393) + "shows 1", NONE);
        fault("shows " + "0".repeat(393) + "1", NONE);
        fault(" ".repeat(399) + "s", 399);
    }

    static void promise15_400Tokens() {
        fault(";".repeat(400), 0);
        fault("[".repeat(400), 0);
        fault("shows " + "[".repeat(394), 14);
        fault("shows 1 if " + "(".repeat(389), 19);
        fault("z".repeat(400), 0);
        fault("9".repeat(400), 0);
    }

    static void promise15_eachTextIsReadOnItsOwn() {
        WheelYear x = Bounds.hands(1, 12);
        String ahead = "shows " + joined("1", "+", 39) + joined(";shows 7", "", 10) + ";shows ";
        for (int i = 0; i < 6; i++) {
            due("12 CLAUSES, 50 PARTS, for the time " + (i + 1), Check.law(x, ahead + i), i);
            x.force(i);
            due("should(0, 0) by the time " + (i + 1), x.should(0, 0), i);
        }
    }

    static void promise15_aTextIsReadOnItsOwnBehindOnesThatCantBe() {
        WheelYear x = Bounds.hands(1, 12);
        String[] bad = {"shows " + joined("1", "+", 50) + "+1", joined("shows 1", ";", 12) + ";shows 1",
            "shows " + "[".repeat(9), "shows 10001", "shows 1 if not", "shows 1 if (1=1"};
        for (String text : bad) {
            due("law() of " + text, Check.law(x, text), -6);
        }
        due("50 PARTS", Check.law(x, "shows " + joined("1", "+", 50)), 0);
        due("12 CLAUSES", Check.law(x, joined("shows 1 if day=0", ";", 12)), 1);
        due("8 brackets", Check.law(x, "shows [[[[[[[[1]]]]]]]]"), 2);
        x.force(0);
        due("should by 50 PARTS", x.should(0, 5), 50);
        x.force(1);
        due("should by 12 CLAUSES", x.should(0, 5), Bounds.NOTHING);
        due("should by 12 CLAUSES", x.should(0, 0), 1);
    }

    static void promise15_itIsNotInForceByItself() {
        WheelYear x = Bounds.hands(1, 12);
        Check.law(x, "shows 1");
        due("count(10)", x.count(10), NONE);
        due("should(0, 0)", x.should(0, 0), Bounds.NOTHING);
    }

    // ---- Promise 16: "FAULT of the latest law() that read a TEXT: its place; NONE without."

    static void promise16_noneAheadOfAny() {
        due("fault()", new WheelYear().fault(), NONE);
    }

    static void promise16_ofTheLatestThatRead() {
        WheelYear x = new WheelYear();
        Check.law(x, "shows 1 1");
        due("fault()", x.fault(), 8);
        Check.law(x, "show");
        due("fault() of the next", x.fault(), 0);
        Check.law(x, "shows 1");
        due("NONE behind a LAW", x.fault(), NONE);
    }

    static void promise16_aFaultStaysBehindALawWithoutRoom() {
        WheelYear x = new WheelYear();
        x.image(0);
        for (int i = 0; i < 6; i++) {
            Check.law(x, "shows 1");
        }
        x.image(1);
        x.back(0);
        Check.law(x, "shows 1 1");
        x.back(1);
        due("no room", Check.law(x, "shows 1"), -5);
        due("fault()", x.fault(), 8);
    }

    static void promise16_theEndsPlaceIsTheTextsLength() {
        fault("shows", 5);
        fault("shows ", 6);
        fault("shows   ", 8);
        fault("shows 1;", 8);
        fault("shows 1; ", 9);
        fault("shows 1 if", 10);
        fault("shows 1 if 1", 12);
        fault("shows 1 if 1= ", 14);
        fault("shows 1 if (1=1", 15);
        fault("shows 1 if not", 14);
        fault("shows 1 if 1=1 or", 17);
        fault("shows 1 if 1=1 and", 18);
        fault("shows [1", 8);
        fault("shows 1+", 8);
        fault("shows 1*", 8);
    }

    static void promise16_wordsAreTheLongestRowsOfLetters() {
        fault("shows day", NONE);
        fault("shows days", 6);
        fault("shows da", 6);
        fault("showsday", 0);
        fault("showshows 1", 0);
        fault("shows1", NONE);
        fault("shows 1if 1=1", NONE);
        fault("shows 1ifday=1", 7);
        fault("shows 1 if not1=1", NONE);
        fault("shows 1 if notday=1", 11);
        fault("shows 1 if 1=1or 1=1", NONE);
        fault("shows 1 if 1=1orday=1", 14);
        fault("shows 1 if 1=1and 1=1", NONE);
        fault("shows 1 if day=dayand 1=1", 15);
    }

    static void promise16_wordsThatDifferInOneLetter() {
        for (String word : new String[] {"xhows", "sxows", "showx"}) {
            fault(word + " 1", 0);
        }
        for (String word : new String[] {"xay", "dxy", "dax", "xand", "hxnd", "hanx", "xarks", "marxs", "markx", "xurn",
            "txrn", "turx", "xffset", "ofxset", "offsex"}) {
            fault("shows " + word, 6);
        }
        for (String word : new String[] {"xf", "ix"}) {
            fault("shows 1 " + word + " 1=1", 8);
        }
        for (String word : new String[] {"xr", "ox", "xnd", "axd", "anx"}) {
            fault("shows 1 if 1=1 " + word + " 1=1", 15);
        }
        for (String word : new String[] {"xot", "nxt", "nox"}) {
            fault("shows 1 if " + word + " 1=1", 11);
        }
    }

    static void promise16_lettersAreAToZ() {
        fault("Shows 1", 0);
        fault("shows Day", 6);
        fault("shows day" + (char) 96, 9);
        fault("shows day{", 9);
        fault("shows zday", 6);
        fault("shows dayz", 6);
        fault("shows aday", 6);
        fault("shows daya", 6);
    }

    static void promise16_digitsAre0To9() {
        fault("shows 0", NONE);
        fault("shows 9", NONE);
        fault("shows 1" + (char) 47 + "1", NONE);
        fault("shows 1" + (char) 58, 7);
        fault("shows " + (char) 58 + "1", 6);
        fault("shows " + (char) 47 + "1", 6);
    }

    static void promise16_numbersAreTheLongestRowsOfDigits() {
        fault("shows 1 0", 8);
        fault("shows 1000 0", 11);
        fault("shows 1day", 7);
        fault("shows day1", 9);
    }

    static void promise16_otherBytesStandSingle() {
        fault("shows 1 if 1==1", 13);
        fault("shows 1 if 1<=1", 13);
        fault("shows 1 if 1>=1", 13);
        fault("shows 1 if 1<>1", 13);
        fault("shows 1--1", 8);
        fault("shows 1;;shows 1", 8);
        fault("shows [[1]]", NONE);
        fault("shows 1 if((1=1))", NONE);
    }

    static void promise16_noByteButTheBlankIsSkipped() {
        for (int sign : new int[] {0, 9, 10, 13, 31, 33, 95, 127, 128, 160, 255}) {
            fault("shows 1" + (char) sign, 7);
            fault("shows" + (char) sign + "1", 5);
        }
    }

    static void promise16_anyBlanksBetween() {
        fault("shows 1if[1]<[2]", NONE);
        fault("  shows   1   if   [  1  ]   <   2  ;  shows  3  ", NONE);
        fault("sho ws 1", 0);
        fault("shows d ay", 6);
    }

    static void promise16_numbersTo10000() {
        fault("shows 10000", NONE);
        fault("shows 10001", 6);
        fault("shows 20000", 6);
        fault("shows 100000", 6);
        fault("shows 0", NONE);
        fault("shows 00010000", NONE);
        fault("shows 00010001", 6);
        fault("shows 4294967297", 6);
        fault("shows 18446744073709551617", 6);
        fault("shows " + "9".repeat(394), 6);
        fault("shows 1 if 1=10001", 13);
        fault("shows 10001 1", 6);
    }

    static void promise16_twelveClauses() {
        String twelve = joined("shows 1", ";", 12);
        fault(twelve, NONE);
        fault(twelve + ";shows 1", twelve.length() + 1);
        fault(twelve + "  ;   shows 1", twelve.length() + 6);
        fault(twelve + ";", twelve.length() + 1);
        fault(twelve + ";  ", twelve.length() + 3);
        fault(twelve + ";7", twelve.length() + 1);
        fault(twelve + ";;", twelve.length() + 1);
        fault(twelve + " 7", twelve.length() + 1);
        fault(joined("shows 1", ";", 11) + ";7", 11 * 8);
    }

    static void promise16_fiftyParts() {
        String fifty = "shows " + joined("1", "+", 50);
        fault(fifty, NONE);
        fault(fifty + "+1", fifty.length() + 1);
        fault(fifty + "+day", fifty.length() + 1);
        fault(fifty + "+  [ 1]", fifty.length() + 5);
        fault(fifty + "+", fifty.length() + 1);
        fault(fifty + " 1", fifty.length() + 1);
    }

    static void promise16_fiftyPartsOfTheWholeText() {
        String first = "shows " + joined("1", "+", 24) + " if 1";
        String both = first + "=" + joined("day", "-", 2) + ";shows " + joined("hand", "*", 23);
        fault(both, NONE);
        fault(both + "/turn", both.length() + 1);
        fault(both + " if 1=1", both.length() + 4);
        fault(both + ";shows 1", both.length() + 7);
    }

    static void promise16_eachWordIsAPart() {
        for (String word : new String[] {"day", "hand", "marks", "turn", "offset", "7"}) {
            String text = "shows " + joined("1", "+", 49) + "+" + word;
            fault(text, NONE);
            fault(text + "+1", text.length() + 1);
        }
    }

    static void promise16_bracketsAreNoParts() {
        String text = "shows [[[[" + joined("1", "+", 50) + "]]]]";
        fault(text, NONE);
        fault(text + "+[[[1]]]", text.length() + 4);
        fault(text + "+[[]]", text.length() + 3);
    }

    static void promise16_eightBracketsWithinOneAnother() {
        fault("shows " + "[".repeat(8) + "1" + "]".repeat(8), NONE);
        fault("shows " + "[".repeat(9) + "1" + "]".repeat(9), 14);
        fault("shows 1 if " + "(".repeat(8) + "1=1" + ")".repeat(8), NONE);
        fault("shows 1 if " + "(".repeat(9) + "1=1" + ")".repeat(9), 19);
        fault("shows " + "[".repeat(200), 14);
        fault("shows 1 if " + "(".repeat(200), 19);
    }

    static void promise16_eightBracketsOfBothKinds() {
        fault("shows 1 if ((((([[[1]]]=1)))))", NONE);
        fault("shows 1 if ((((([[[[1]]]]=1)))))", 19);
        fault("shows 1 if ((((((([1]=1)))))))", NONE);
        fault("shows 1 if ((((((([[1]]=1)))))))", 19);
        fault("shows 1 if ([[[[[[[1]]]]]]]=[[[[[[[1]]]]]]])", NONE);
        fault("shows 1 if ([[[[[[[1]]]]]]]=[[[[[[[[1]]]]]]]])", 35);
    }

    static void promise16_bracketsThatAreClosedDoNotCount() {
        fault("shows [[[[[[[[1]]]]]]]]+[[[[[[[[1]]]]]]]]", NONE);
        fault("shows [1]+[1]+[1]+[1]+[1]+[1]+[1]+[1]+[1]+[1]", NONE);
        fault("shows 1 if (((((((([1]=1)", 19);
        fault("shows 1 if ((((((((1=1)))))))) and ((((((((1=1))))))))", NONE);
        fault("shows [[[[[[[[1]]]]]]]];shows [[[[[[[[1]]]]]]]]", NONE);
        fault("shows [[[[[[[[1]+[1]]]]]]]]", NONE);
        fault("shows [[[[[[[[1+[1]]]]]]]]]", 16);
    }

    static void promise16_bracketsOfEachKindCloseTheirOwn() {
        fault("shows [1)", 8);
        fault("shows (1)", 6);
        fault("shows 1]", 7);
        fault("shows []", 7);
        fault("shows 1 if (1=1]", 15);
        fault("shows 1 if [1=1]", 13);
        fault("shows 1 if (1=1))", 16);
        fault("shows 1 if ()", 12);
        fault("shows 1 if (1)=1", 13);
        fault("shows 1 if 1=(1)", 13);
    }

    static void promise16_aClauseBeginsWithShows() {
        fault("1", 0);
        fault("day", 0);
        fault("if 1=1", 0);
        fault(";", 0);
        fault("shows 1;1", 8);
        fault("shows 1 shows 1", 8);
        fault("shows shows", 6);
    }

    static void promise16_ifStandsOnceBehindTheSum() {
        fault("shows if 1=1", 6);
        fault("shows 1 if if", 11);
        fault("shows 1 if 1=1 if 1=1", 15);
        fault("shows 1 1=1", 8);
        fault("shows 1=1", 7);
        fault("shows 1 or 1=1", 8);
        fault("shows not 1", 6);
    }

    static void promise16_aTestComparesOnce() {
        fault("shows 1 if 1", 12);
        fault("shows 1 if day;shows 1", 14);
        fault("shows 1 if 1=1=1", 14);
        fault("shows 1 if 1<1>1", 14);
        fault("shows 1 if =1", 11);
        fault("shows 1 if 1 and 1=1", 13);
        fault("shows 1 if (1=1)=1", 16);
        fault("shows 1 if (1=1)+1", 16);
    }

    static void promise16_notOrAndStandWhereTheyCan() {
        fault("shows 1 if not not not 1=1", NONE);
        fault("shows 1 if 1=not 1", 13);
        fault("shows 1 if 1 not=1", 13);
        fault("shows 1 if or 1=1", 11);
        fault("shows 1 if and 1=1", 11);
        fault("shows 1 if 1=1 or or 1=1", 18);
        fault("shows 1 if 1=1 and or 1=1", 19);
        fault("shows 1 if 1=1 or and 1=1", 18);
        fault("shows 1 if 1=1 not 1=1", 15);
        fault("shows 1 if not;", 14);
    }

    static void promise16_asManyNotsAsTheTapeHolds() {
        fault("shows 1 if " + "not ".repeat(96) + "1=1", NONE);
        fault("shows 1 if " + "not ".repeat(97), 399);
    }

    static void promise16_operatorsStandBetweenParts() {
        fault("shows +1", 6);
        fault("shows -1", 6);
        fault("shows *1", 6);
        fault("shows 1+-1", 8);
        fault("shows 1 2", 8);
        fault("shows day day", 10);
        fault("shows 1[1]", 7);
        fault("shows [1]1", 9);
        fault("shows [+1]", 7);
        fault("shows [1+]", 9);
    }
}
