/** Promises 11 to 17, 20, 21, 26: the tape, rows of stock, laws, what hands should show, when they are wrong, cams. */
final class LawsTest {
    private static final Check check = new Check();
    private static final int NOTHING = -2000000000;

    public static void main(String[] args) {
        tape();
        rows();
        lawsKept();
        faults();
        limits();
        sums();
        tests();
        words();
        wrongs();
        cams();
        check.end("LawsTest");
    }

    private static void tape() {
        WheelYear x = new WheelYear();
        check.due("end 0", x.end(0), 0);
        check.due("end 1", x.end(1), -1);
        for (int i = 1; i <= 20; i++) {
            check.due("feed", x.feed(0x06070809, 0x0a0b0c0d, 0x7879ff80, 0x05000000, -1), 20 * i);
        }
        check.due("feed more", x.feed(0, 0, 0, 0, 0), -1);
        check.due("count", x.count(5), 400);
        check.due("end", x.end(401), -1);
        check.due("end", x.end(-1), -1);
        check.due("end", x.end(400), 400);
        check.due("end", x.end(381), 381);
        check.due("feed more", x.feed(0, 0, 0, 0, 0), -1);
        check.due("no refusal", x.count(6), 0);
        check.due("end", x.end(20), 20);
        check.due("status", x.status(), 0);
        check.due("row", x.row(), 9);
        check.due("bent", x.bent(), 11);
        int[] teeth = {6, 7, 8, 9, 10, 11, 12, 13, 120};
        for (int i = 0; i < teeth.length; i++) {
            check.due("teeth", x.teeth(i), teeth[i]);
        }
        check.due("tape", x.count(5), 0);
    }

    private static void rows() {
        WheelYear x = new WheelYear();
        check.due("empty", x.row(), -6);
        check.due("status", x.status(), -6);
        check.due("bent", x.bent(), 0);
        Check.tape(x, "aaaaaaaaaaaaaa");
        check.due("row", x.row(), 12);
        check.due("status", x.status(), 0);
        check.due("bent", x.bent(), 2);
        check.due("empty", x.row(), -6);
        check.due("bent stays", x.bent(), 2);
        Check.tape(x, "aaa");
        check.due("no room", x.row(), 0);
        check.due("bent", x.bent(), 3);
        check.due("refused", x.count(9), 2);
        check.due("refused", x.count(8), 0);
    }

    private static void lawsKept() {
        WheelYear x = new WheelYear();
        x.hand(9);
        check.due("force none", x.force(-1), -1);
        check.due("status", x.status(), 0);
        check.due("force 0", x.force(0), -2);
        check.due("force -2", x.force(-2), -2);
        check.due("should", x.should(0, 4), NOTHING);
        for (int i = 0; i < 6; i++) {
            check.due("law", Check.law(x, "shows " + i), i);
            check.due("tape", x.count(5), 0);
        }
        check.due("bad seventh", Check.law(x, "shows"), -5);
        check.due("status", x.status(), -5);
        check.due("tape", x.count(5), 0);
        check.due("fault of the latest that was read", x.fault(), -1);
        check.due("empty seventh", x.law(), -5);
        check.due("laws", x.count(2), 6);
        for (int i = 0; i < 6; i++) {
            check.due("force", x.force(i), i - 1);
            check.due("should", x.should(0, 4), i);
            check.due("count", x.count(10), i);
        }
        check.due("force 6", x.force(6), -2);
        check.due("force none", x.force(-1), 5);
        check.due("should", x.should(0, 4), NOTHING);
    }

    private static void fault(String text, int place) {
        WheelYear x = new WheelYear();
        check.due("law " + text, Check.law(x, text), place == -1 ? 0 : -6);
        check.due("fault " + text, x.fault(), place);
        check.due("status", x.status(), place == -1 ? 0 : -6);
    }

    private static void faults() {
        fault("", 0);
        fault("   ", 3);
        fault("shows", 5);
        fault("shows  ", 7);
        fault("shows1", -1);
        fault("  shows 1  ", -1);
        fault("show 1", 0);
        fault("showsday", 0);
        fault("Shows 1", 0);
        fault("shows\t1", 5);
        fault("shows 1\u00e9", 7);
        fault("shows 1 1", 8);
        fault("shows 1;", 8);
        fault("shows 1;;", 8);
        fault(";shows 1", 0);
        fault("shows 1;shows 2", -1);
        fault("shows -1", 6);
        fault("shows 1+", 8);
        fault("shows (1)", 6);
        fault("shows [1]", -1);
        fault("shows []", 7);
        fault("shows [1", 8);
        fault("shows [1)", 8);
        fault("shows 1]", 7);
        fault("shows 1 if", 10);
        fault("shows 1 if 1", 12);
        fault("shows 1 if 1=", 13);
        fault("shows 1 if 1=1", -1);
        fault("shows 1 if 1=1=1", 14);
        fault("shows 1 if 1==1", 13);
        fault("shows 1 if 1=1 if 1=1", 15);
        fault("shows 1 if [1=1]", 13);
        fault("shows 1 if (1)=1", 13);
        fault("shows 1 if (1=1)", -1);
        fault("shows 1 if (1=1)+1", 16);
        fault("shows 1 if (1=1)=1", 16);
        fault("shows 1 if (1=1))", 16);
        fault("shows 1 if not not(1=1)", -1);
        fault("shows 1 if notnot 1=1", 11);
        fault("shows 1 if 1=not 1", 13);
        fault("shows 1 if 1=1 and", 18);
        fault("shows 1 if 1=1 and or", 19);
        fault("shows 1 if 1=1 or not 2<3and 4>5", -1);
        fault("shows 1 if 1=1 shows", 15);
        fault("shows month", 6);
        fault("shows days", 6);
        fault("shows if", 6);
        fault("shows 10000", -1);
        fault("shows 10001", 6);
        fault("shows 000000000000010000", -1);
        fault("shows 99999999999999999999999999", 6);
        fault("shows 1 or 1=1", 8);
        fault("shows 1 <2", 8);
        fault("xhows 1", 0);
        fault("showx 1", 0);
        fault("shows dayz", 6);
        fault("shows day{", 9);
        fault("shows `day", 6);
        fault("shows 1/2:", 9);
        fault("shows aday", 6);
    }

    private static void limits() {
        String clause = "shows 1";
        StringBuilder text = new StringBuilder(clause);
        for (int i = 1; i < 12; i++) {
            text.append(';').append(clause);
        }
        fault(text.toString(), -1);
        fault(text + ";", text.length() + 1);
        fault(text + ";shows 1", text.length() + 1);
        fault(text + ";  7", text.length() + 3);
        fault(text + " 7", text.length() + 1);

        StringBuilder sum = new StringBuilder("shows 0");
        for (int i = 1; i < 49; i++) {
            sum.append(i % 2 == 0 ? "+1" : "+hand");
        }
        fault(sum + "+1", -1);
        fault(sum + "+1+1", sum.length() + 3);
        fault(sum + "+1+[1]", sum.length() + 4);
        fault(sum + "+1+[[", sum.length() + 5);
        fault(sum + "+1;shows 1", sum.length() + 9);
        fault(sum + " if 1=1", sum.length() + 6);

        fault("shows [[[[[[[[1]]]]]]]]", -1);
        fault("shows [[[[[[[[[1]]]]]]]]]", 14);
        fault("shows [1]+[[[[[[[[1]]]]]]]]", -1);
        fault("shows 1 if ((((((((1=1))))))))", -1);
        fault("shows 1 if (((((((((1=1)))))))))", 19);
        fault("shows 1 if ((((([[[1]]]=1)))))", -1);
        fault("shows 1 if ((((([[[[1]]]]=1)))))", 19);
        fault("shows 1 if 1=[[[[[[[[1]]]]]]]]", -1);
        fault("shows 1 if ((((((((1=1)))))))) and not ((((((((1=1))))))))", -1);

        fault(";".repeat(400), 0);
        fault("z".repeat(400), 0);
        fault("9".repeat(400), 0);
        fault(" ".repeat(400), 400);
        fault("shows 1" + " ".repeat(393), -1);
        fault("shows 1" + " ".repeat(392) + ";", 400);
        fault("shows 1" + " ".repeat(392) + "1", 399);
        fault("shows " + "0".repeat(393) + "7", -1);
        fault("shows " + "0".repeat(389) + "10001", 6);
        says("shows " + "0".repeat(389) + "10000", 10000);

        StringBuilder nots = new StringBuilder("shows 1 if ");
        for (int i = 0; i < 96; i++) {
            nots.append("not ");
        }
        fault(nots + "1=1", -1);
        says(nots + "1=1", 1);
        says(nots.substring(4).replace("s 1 if", "shows 1 if") + "1=2", NOTHING);
        says(nots.toString().replaceFirst("not ", "") + "1=2", 1);
    }

    private static void says(String text, int due) {
        WheelYear x = new WheelYear();
        x.hand(12);
        check.due("law " + text, Check.law(x, text), 0);
        x.force(0);
        check.due("should by " + text, x.should(0, 7), due);
    }

    private static void sums() {
        says("shows 1+2*3", 7);
        says("shows [1+2]*3", 9);
        says("shows 10-3-2", 5);
        says("shows 100/10/5", 2);
        says("shows 100/7%4*3", 6);
        says("shows 7/2", 3);
        says("shows [0-7]/2", -3);
        says("shows [0-7]%2", -1);
        says("shows 7%[0-2]", 1);
        says("shows 7/[0-2]", -3);
        says("shows 1/0", NOTHING);
        says("shows 1%0", NOTHING);
        says("shows 0/[1-1]", NOTHING);
        says("shows 10000*10000*10", 1000000000);
        says("shows 0-10000*10000*10", -1000000000);
        says("shows 10000*10000*10+1", NOTHING);
        says("shows 0-10000*10000*10-1", NOTHING);
        says("shows 10000*10000*11/11", NOTHING);
        says("shows 10000*10000*10000*10000", NOTHING);
        says("shows [10000*10000*10+1]-1", NOTHING);
        says("shows 1;shows 1/0", 1);
        says("shows 1;shows 2;shows 1/0", 2);
        says("shows 1 if 1=1;shows 2 if 1=2", 1);
        says("shows 1;shows 2 if 1/0=1", 1);
        says("shows 1;shows 1/0 if 1=1", 1);
        says("shows 1;shows 3 if 1=1", 3);
        says("shows [[[[1+[2*[3+[4-[5]]]]]]]]", 5);
    }

    private static void tests() {
        says("shows 5 if 1<2", 5);
        says("shows 5 if 2<2", NOTHING);
        says("shows 5 if 2>1", 5);
        says("shows 5 if 2>2", NOTHING);
        says("shows 5 if 2=2", 5);
        says("shows 5 if 2=3", NOTHING);
        says("shows 5 if 1=2 or 2=2 and 1=2", NOTHING);
        says("shows 5 if 2=2 or 2=2 and 1=2", 5);
        says("shows 5 if (2=2 or 2=2) and 1=2", NOTHING);
        says("shows 5 if not 1=2 and 1=2", NOTHING);
        says("shows 5 if not (1=2 and 1=2)", 5);
        says("shows 5 if 1=1 or 1/0=1", 5);
        says("shows 5 if 1/0=1 or 1=1", NOTHING);
        says("shows 5 if 1=2 or 1/0=1", NOTHING);
        says("shows 5 if 1=1 and 1/0=1", NOTHING);
        says("shows 5 if 1=2 and 1/0=1 or 1=1", 5);
        says("shows 5 if not (1=2 and 1/0=1)", 5);
        says("shows 5 if not 1/0=1", NOTHING);
        says("shows 5 if not (1/0=1 or 1=1)", NOTHING);
        says("shows 5 if 1=1 or 1=2 or 1/0=1", 5);
        says("shows 5 if 1=2 or 1=1 or 1/0=1", 5);
        says("shows 5 if (1=1 or 1/0=1) and 1=1", 5);
        says("shows 5 if 1=1 and 1=2 and 1/0=1 or 3=3", 5);
        says("shows 5 if 10000*10000*10<10000*10000*10+1", NOTHING);
    }

    private static void words() {
        WheelYear x = new WheelYear();
        x.hand(3);
        x.hand(400);
        x.pair(1, 120, 6);
        x.put(1, 0, 37);
        x.put(1, 1, 10);
        String[] texts = {"shows day", "shows hand", "shows marks", "shows turn", "shows offset"};
        int[] due = {1000000, 1, 400, 0, 37};
        for (int i = 0; i < texts.length; i++) {
            check.due("law", Check.law(x, texts[i]), i);
            x.force(i);
            check.due(texts[i], x.should(1, 1000000), due[i]);
        }
        x.force(3);
        check.due("turn", x.should(1, 19), 360);
        check.due("turn", x.should(1, 77777), 70000L * 20 % 1000000);
        check.due("day", x.should(1, 1000001), NOTHING);
        check.due("day", x.should(1, -1), NOTHING);
        check.due("no hand", x.should(2, 0), NOTHING);
        check.due("no hand", x.should(-1, 0), NOTHING);
        x.force(0);
        check.due("day 0", x.should(0, 0), 0);
        check.due("wrong below 0", Check.law(x, "shows 0-5"), 5);
        x.force(5);
        check.due("below 0", x.should(0, 3), -5);
        check.due("wrong", x.shows(0, 3, 2), 1);
    }

    private static void wrongs() {
        WheelYear x = new WheelYear();
        x.hand(7);
        x.pair(0, 6, 42);
        check.due("no law", x.wrong(0, 0, 5000, 0), -1);
        check.due("no law", x.wrong(0, 0, 5000, 1), 0);
        Check.law(x, "shows day%7;shows 9 if day=10 or day>4998");
        x.force(0);
        check.due("first", x.wrong(0, 0, 5000, 0), 10);
        check.due("how often", x.wrong(0, 0, 5000, 1), 3);
        check.due("first", x.wrong(0, 11, 4998, 0), -1);
        check.due("how often", x.wrong(0, 11, 4998, 1), 0);
        check.due("one day", x.wrong(0, 10, 10, 0), 10);
        check.due("one day", x.wrong(0, 10, 10, 1), 1);
        check.due("last days", x.wrong(0, 995000, 1000000, 1), 5001);
        check.due("too long", x.wrong(0, 0, 5001, 1), -1);
        check.due("backwards", x.wrong(0, 1, 0, 1), -1);
        check.due("day", x.wrong(0, -1, 0, 1), -1);
        check.due("day", x.wrong(0, 1000000, 1000001, 1), -1);
        check.due("day", x.wrong(0, Integer.MIN_VALUE, Integer.MAX_VALUE, 1), -1);
        check.due("what", x.wrong(0, 0, 1, 2), -1);
        check.due("no hand", x.wrong(1, 0, 1, 1), -1);
    }

    private static void cams() {
        WheelYear x = new WheelYear();
        x.hand(7);
        check.due("no law", x.cam(0, 99), -1);
        String[] texts = {"shows 4", "shows day%99", "shows day%100", "shows 1 if day>0", "shows day/50", "shows 2;shows 3 if day=2000"};
        int[] least = {1, 99, -1, -1, -1, 1};
        int[] most = {1, 99, -1, -1, -1, -1};
        for (int i = 0; i < texts.length; i++) {
            Check.law(x, texts[i]);
            x.force(i);
            check.due("cam 99 " + texts[i], x.cam(0, 99), least[i]);
            check.due("cam 2000 " + texts[i], x.cam(0, 2000), most[i]);
        }
        x.force(0);
        check.due("too short", x.cam(0, 98), -1);
        check.due("too long", x.cam(0, 2001), -1);
        check.due("no hand", x.cam(1, 99), -1);
        WheelYear y = new WheelYear();
        y.hand(5);
        Check.law(y, "shows 0;shows 3 if day=96");
        y.force(0);
        check.due("all days on which there is one as long before", y.cam(0, 99), 97);
    }
}
