/** Promises 1 to 5, and what a dinner may tell: tokens, lines, limits, faults and their places, formulas. */
final class TextTest {
    private static final String A = "guest a takes 1 slow 1;";
    private static final String AB = A + "guest b takes 1 slow 1;";
    private static final String[] OWN_WORDS = {"guest", "takes", "slow", "feud", "boat", "heat", "across", "cools",
        "leans", "draw", "or", "and", "not", "left", "minute", "seat", "guests"};

    public static void main(String[] args) {
        newObject();
        tape();
        cutTape();
        dinners();
        soundTexts();
        tokenFaults();
        lineFaults();
        guestAndFeudFaults();
        formulaFaults();
        formulaLimits();
        formulas();
        Due.end();
    }

    private static void newObject() {
        GravyRound x = new GravyRound();
        int[] want = {0, 0, 0, 0, -1, 0, 0, 0, 0, 0, 0, 0, 0, 0, 0, 3, 0};
        for (int i = 0; i < want.length; i++) {
            Due.is(1, "new, about(" + i + ")", x.about(i), want[i]);
        }
        Due.is(1, "new, minute()", x.minute(), -2);
        Due.is(1, "new, round()", x.round(), 0);
        Due.is(5, "new, fault(0)", x.fault(0), 0);
        Due.is(5, "new, fault(1)", x.fault(1), -1);
        Due.is(5, "new, fault(2)", x.fault(2), -1);
        Due.is(5, "new, fault(-1)", x.fault(-1), -1);
        Due.is(48, "new, back(0)", x.back(0), -1);
    }

    private static void tape() {
        GravyRound x = new GravyRound();
        // "boat 42;" and blanks: b is 98, o 111, a 97, t 116
        int first = 98 << 24 | 111 << 16 | 97 << 8 | 116;
        int second = 32 << 24 | 52 << 16 | 50 << 8 | 59;
        int blank = 0x20202020;
        Due.is(2, "feed", x.feed(first, second, blank, blank, blank), 20);
        Due.is(2, "about(12)", x.about(12), 20);
        Due.is(4, "dinner()", x.dinner(), 0);
        Due.is(2, "about(2)", x.about(2), 42);
        Due.is(4, "the tape is empty then", x.about(12), 0);
        for (int i = 1; i <= 80; i++) {
            Due.is(2, "feed number " + i, x.feed(blank, blank, blank, blank, blank), 20 * i);
        }
        Due.is(2, "feed beyond 1600", x.feed(blank, blank, blank, blank, blank), -1);
        Due.is(2, "nothing comes then", x.about(12), 1600);
        Due.is(3, "end(1601)", x.end(1601), -1);
        Due.is(3, "end(-1)", x.end(-1), -1);
        Due.is(3, "nothing is done then", x.about(12), 1600);
        Due.is(3, "end(1581)", x.end(1581), 1581);
        Due.is(2, "feed beyond 1600 by one", x.feed(blank, blank, blank, blank, blank), -1);
        Due.is(3, "end(1580)", x.end(1580), 1580);
        Due.is(2, "feed up to 1600", x.feed(blank, blank, blank, blank, blank), 1600);
        Due.is(3, "end(1600)", x.end(1600), 1600);
        Due.is(3, "end(0)", x.end(0), 0);
        Due.is(3, "end(0) again", x.end(0), 0);
        Due.is(3, "end(1) of none", x.end(1), -1);
    }

    /** What end() cut off still stands in the room behind the tape: it may not be read. */
    private static void cutTape() {
        Object[][] cuts = {{"boat 00051", 9, 9}, {"guest abcdefghi", 14, 14}, {"boat 5a", 6, 6}, {"boat 5;", 6, 6}};
        for (Object[] cut : cuts) {
            GravyRound x = new GravyRound();
            Due.put(x, (String) cut[0]);
            x.end((int) cut[1]);
            Due.is(3, "dinner() of [" + cut[0] + "], cut", x.dinner(), -1);
            Due.is(3, "fault(0) of [" + cut[0] + "], cut", x.fault(0), 2);
            Due.is(3, "fault(1) of [" + cut[0] + "], cut", x.fault(1), (int) cut[2]);
        }
        GravyRound y = new GravyRound();
        Due.put(y, "boat 57;heat 9;");
        y.end(6);
        Due.put(y, ";");
        Due.is(3, "dinner() of what comes behind the cut", y.dinner(), 0);
        Due.is(3, "the boat", y.about(2), 5);
        Due.is(3, "the heat", y.about(3), 0);
        // a full tape whose last token ends with it
        GravyRound full = new GravyRound();
        Due.put(full, " ".repeat(1596) + "boat");
        Due.is(4, "dinner() of 1,600 bytes, a word last", full.dinner(), -1);
        Due.is(5, "fault(1)", full.fault(1), 1600);
        GravyRound number = new GravyRound();
        Due.put(number, " ".repeat(1594) + "boat 5");
        Due.is(4, "dinner() of 1,600 bytes, a number last", number.dinner(), -1);
        Due.is(5, "fault(1)", number.fault(1), 1600);
    }

    private static void dinners() {
        GravyRound x = Due.dine(AB + "feud a b;boat 9;heat 50;leans 100;draw 5;across 4;cools 1+1;");
        x.later(7);
        x.seen(0, 0, true);
        x.minute();
        x.tables();
        x.image(1);
        Due.put(x, "boat 3;guest");
        Due.is(4, "dinner() with a fault", x.dinner(), -1);
        Due.is(5, "fault(0)", x.fault(0), 2);
        Due.is(5, "fault(1)", x.fault(1), 12);
        Due.is(4, "all stays: guests", x.about(0), 2);
        Due.is(4, "all stays: the boat", x.about(2), 7);
        Due.is(4, "all stays: the minute", x.about(6), 1);
        Due.is(4, "all stays: acts", x.about(8), 1);
        Due.is(4, "all stays: what is seen", x.about(10), 1);
        Due.is(4, "all stays: the tape", x.about(12), 12);
        Due.is(4, "all stays: units", x.about(13), 2);
        Due.is(4, "all stays: what lies there", x.about(14), 2);
        Due.is(3, "the faulty end is cut off", x.end(7), 7);
        Due.is(4, "dinner() without it", x.dinner(), 0);
        int[] want = {0, 0, 3, 0, -1, 0, 0, 0, 0, 0, 0, 7, 0, 0, 0, 3, 0};
        for (int i = 0; i < want.length; i++) {
            Due.is(4, "a new dinner, about(" + i + ")", x.about(i), want[i]);
        }
        Due.is(5, "fault(0) of a sound one", x.fault(0), 0);
        Due.is(5, "fault(1) of a sound one", x.fault(1), -1);
        Due.is(4, "boxes are empty", x.back(1), -1);
        Due.is(4, "no acts are kept", x.undo(), false);
        Due.put(x, AB + "feud a b;heat 9;boat 5;");
        x.dinner();
        Due.minutes(x, 5);
        x.makeUp(0);
        Due.put(x, AB + "feud a b;");
        Due.is(4, "dinner() once more", x.dinner(), 2);
        for (int g = 0; g < 2; g++) {
            for (int what = 3; what <= 5; what++) {
                Due.is(4, "nobody is served yet, guest(" + g + ", " + what + ")", x.guest(g, what), 0);
            }
        }
        Due.is(4, "no feud is ended", x.feud(0, 2), 0);
        Due.is(4, "it cools as ever", x.about(13), 0);
        x.end(0);
        Due.is(4, "the empty tape is a dinner", x.dinner(), 0);
        Due.is(4, "and all is as told by it", x.about(2), 0);
    }

    private static void soundTexts() {
        Edges.sound("", 0);
        Edges.sound(" \n  ", 0);
        Edges.sound("boat 0;heat 0;across 0;leans 0;draw 0;", 0);
        Edges.sound("boat 99;heat 99;across 9;leans 100;draw 999;cools 9999;", 0);
        Edges.sound("boat5;heat 0007 ;across\n3;", 0);
        Edges.sound("guest abcdefgh takes 0 slow 1;guest z takes 20 slow 9;feud z abcdefgh;", 2);
        Edges.sound("guest\na\ntakes\n1\nslow\n1\n;\n", 1);
    }

    private static void tokenFaults() {
        Edges.faultyAt("!@", 1);
        Edges.faultyAt("  !A", 1);
        Edges.faultyAt("boat 5;!\t", 1);
        Edges.faultyAt("boat 5;!" + (char) 233, 1);
        Edges.faultyAt("boat 5;!" + (char) 0, 1);
        Edges.faultyAt("boat !12345;", 1);
        Edges.faultyAt("boat !00001;", 1);
        Edges.faultyAt("boat !5a;", 1);
        Edges.faultyAt("boat 5!,", 1);
        Edges.faultyAt("guest !abcdefghi takes 1 slow 1;", 1);
        Edges.faultyAt("guest a takes !1slow 1;", 1);
        Edges.faultyAt("cools !1or 1;", 1);
        Edges.faultyAt("cools 1 !_ 1;", 1);
        // the first by its place
        Edges.faultyAt("boat !100;@", 4);
        Edges.faultyAt("boat !;@", 2);
    }

    private static void lineFaults() {
        Edges.faultyAt("boat 5!", 2);
        Edges.faultyAt("boat 5 \n !", 2);
        Edges.faultyAt("boat!", 2);
        Edges.faultyAt("boat !;", 2);
        Edges.faultyAt("boat !boat 5;", 2);
        Edges.faultyAt("boat 5 !5;", 2);
        Edges.faultyAt("!;", 2);
        Edges.faultyAt("boat 5;!;", 2);
        Edges.faultyAt("!5;", 2);
        Edges.faultyAt("!lady 5;", 2);
        Edges.faultyAt("!guests 5;", 2);
        Edges.faultyAt("!minute 5;", 2);
        Edges.faultyAt("boat !100;", 4);
        Edges.faultyAt("heat !100;", 4);
        Edges.faultyAt("across !10;", 4);
        Edges.faultyAt("leans !101;", 4);
        Edges.faultyAt("draw !1000;", 4);
        for (String word : new String[] {"boat", "heat", "across", "leans", "draw", "cools"}) {
            Edges.faultyAt(word + " 1;!" + word + " 1;", 2);
        }
        Edges.faultyAt(A + "boat 1;heat 1;!boat 100;", 2);
    }

    private static void guestAndFeudFaults() {
        for (String word : OWN_WORDS) {
            Edges.faultyAt("guest !" + word + " takes 1 slow 1;", 2);
            Edges.faultyAt(A + "feud !" + word + " a;", 2);
            Edges.faultyAt(A + "feud a !" + word + ";", 2);
        }
        Edges.faultyAt("guest !5 takes 1 slow 1;", 2);
        Edges.faultyAt("guest a !slow 1;", 2);
        Edges.faultyAt("guest a takes !slow 1;", 2);
        Edges.faultyAt("guest a takes 1 !;", 2);
        Edges.faultyAt("guest a takes 1 slow 1!", 2);
        Edges.faultyAt("guest a takes !21 slow 1;", 4);
        Edges.faultyAt("guest a takes 1 slow !0;", 4);
        Edges.faultyAt("guest a takes 1 slow !10;", 4);
        Edges.faultyAt(A + "guest !a takes 1 slow 1;", 3);
        Edges.faultyAt(A + "feud a !a;", 3);
        Edges.faultyAt(AB + "feud a b;feud a !b;", 3);
        Edges.faultyAt(AB + "feud a b;feud b !a;", 3);
        Edges.faultyAt("feud !a b;" + AB, 5);
        Edges.faultyAt(A + "feud a !b;" + "guest b takes 1 slow 1;", 5);
        Edges.faultyAt(A + "feud !b a;", 5);
        Edges.faultyAt(AB + "feud a b!", 2);
        String seven = "";
        for (char c = 'a'; c <= 'g'; c++) {
            seven += "guest " + c + " takes 1 slow 1;";
        }
        Edges.sound(seven, 7);
        Edges.faultyAt(seven + "!guest h takes 1 slow 1;", 2);
        String ten = seven + "feud a b;feud a c;feud a d;feud a e;feud a f;feud a g;feud b c;feud b d;feud b e;feud b f;";
        Edges.sound(ten, 7);
        Edges.faultyAt(ten + "!feud b g;", 2);
        Edges.faultyAt(ten + "!feud a b;", 2);
        GravyRound x = Due.dine(ten);
        Due.is(49, "about(1)", x.about(1), 10);
        Due.is(8, "feud(9, 1)", x.feud(9, 1), 5);
    }

    private static void formulaFaults() {
        Edges.faultyAt("cools !;", 2);
        Edges.faultyAt("cools 1 !2;", 2);
        Edges.faultyAt("cools 1+!;", 2);
        Edges.faultyAt("cools !-1;", 2);
        Edges.faultyAt("cools 1<2!<3;", 2);
        Edges.faultyAt("cools 1<!not 2;", 2);
        Edges.faultyAt("cools 1+!not 2;", 2);
        Edges.faultyAt("cools (1!;", 2);
        Edges.faultyAt("cools 1!);", 2);
        Edges.faultyAt("cools (!);", 2);
        Edges.faultyAt("cools not !;", 2);
        Edges.faultyAt("cools 1 and !;", 2);
        Edges.faultyAt("cools 1 or !or 1;", 2);
        // what is missing directly ahead of the line's end
        for (String sign : new String[] {"or", "and", "<", ">", "=", "+", "-", "*", "/", "%"}) {
            Edges.faultyAt("cools 1 " + sign + " !;", 2);
            Edges.faultyAt("cools (1 " + sign + " !);", 2);
        }
        Edges.faultyAt("cools !boat;", 2);
        Edges.faultyAt("cools !lady;", 2);
        Edges.faultyAt("cools 1!", 2);
    }

    private static void formulaLimits() {
        String thirty = "1" + "+1".repeat(29);
        Edges.sound("cools " + thirty + ";", 0);
        Due.is(49, "units", Due.dine("cools " + thirty + ";").about(13), 30);
        Due.is(49, "units", Due.dine("cools (1)+((heat));").about(13), 5);
        Edges.faultyAt("cools " + thirty + "+!1;", 2);
        Edges.faultyAt("cools " + thirty + "+!(1);", 2);
        // the brackets are a unit too
        Edges.faultyAt("cools (" + "1+".repeat(29) + "!1);", 2);
        Edges.sound("cools (" + "1+".repeat(28) + "1);", 0);
        Edges.sound("cools " + "(".repeat(7) + "1" + ")".repeat(7) + ";", 0);
        Edges.faultyAt("cools " + "(".repeat(7) + "!(1" + ")".repeat(8) + ";", 2);
        Edges.sound("cools " + "not ".repeat(7) + "1;", 0);
        Edges.faultyAt("cools " + "not ".repeat(7) + "!not 1;", 2);
        Edges.sound("cools " + "not(".repeat(3) + "not 1" + ")".repeat(3) + ";", 0);
        // seven others are: three nots, three brackets, one not; the bracket behind them is within all of these
        Edges.faultyAt("cools " + "not(".repeat(3) + "not !(1)" + ")".repeat(3) + ";", 2);
        Edges.faultyAt("cools " + "(not ".repeat(3) + "(!not 1)" + ")".repeat(3) + ";", 2);
        // what is within no other again may go as deep again
        Edges.sound("cools " + "((((((1))))))+((((((1))))));", 0);
    }

    /** How much the heat of 99 is less behind one minute. */
    private static void cools(String formula, int less) {
        GravyRound x = Due.dine("guest a takes 3 slow 9;guest b takes 0 slow 1;boat 40;heat 99;cools " + formula + ";");
        x.minute();
        Due.is(9, "what comes of " + formula, 99 - x.about(3), less);
    }

    private static void formulas() {
        cools("2+3*4", 14);
        cools("20-3-4", 13);
        cools("40/4/5", 2);
        cools("40/4*5", 50);
        cools("17%5", 2);
        cools("7/0", 0);
        cools("9+7/0", 9);
        cools("9+7%0", 9);
        cools("0-7", 0);
        cools("10+(0-7)/2", 7);
        cools("10+(0-7)%4", 7);
        cools("1000", 99);
        cools("9999*9999*22", 0);
        cools("9999*9999*43", 99);
        cools("(2+3)*4", 20);
        cools("1<2", 1);
        cools("2<2", 0);
        cools("2>1", 1);
        cools("2>2", 0);
        cools("2=2", 1);
        cools("2=3", 0);
        cools("1+1<3", 1);
        cools("not 0", 1);
        cools("not 5", 0);
        cools("not not 5", 1);
        cools("not 1<0", 1);
        cools("not 0 and 0", 0);
        cools("5 and 3", 1);
        cools("5 and 0", 0);
        cools("5 or 3", 1);
        cools("0 or 0", 0);
        cools("1 or 0 and 0", 1);
        cools("(1 or 0) and 0", 0);
        cools("(0-1) and 1", 1);
        cools("heat/2", 49);
        cools("left", 40);
        cools("minute+1", 1);
        cools("seat+2", 2);
        cools("guests*3", 6);
        cools("(heat>90)*7+(left=40)*11", 18);
    }
}
