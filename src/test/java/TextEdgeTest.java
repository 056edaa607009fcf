/** The boundary cases of a dinner's text (the Terms' first part) and of the promises 1 to 5, each sentence by a test of its own. */
final class TextEdgeTest {
    private static final String A = Edges.guests(1);
    private static final String AB = Edges.guests(1, 1);
    private static final String SEVEN = Edges.guests(1, 1, 1, 1, 1, 1, 1);
    private static final String TEN = SEVEN + Edges.feuds("ab ac ad ae af ag bc bd be bf");
    private static final String SIGNS = ";()<>=+-*/%";
    private static final int BLANKS = 0x20202020;
    private static final String[] OWN_WORDS = {"guest", "takes", "slow", "feud", "boat", "heat", "across", "cools",
        "leans", "draw", "or", "and", "not", "left", "minute", "seat", "guests"};

    public static void main(String[] args) throws IllegalAccessException {
        Edges.run(TextEdgeTest.class);
    }

    private static void sound(String text) {
        Edges.sound(text, 0);
    }

    private static String line(String name) {
        return "guest " + name + " takes 1 slow 1;";
    }

    // ---- the text as a whole

    @Says("A DINNER is a text of at most 1,600 bytes (empty at first)")
    private static void wholeText() {
        GravyRound x = Edges.sound(" ".repeat(1593) + "boat 7;", 0);
        Due.is(4, "the last line of 1,600 bytes", x.about(2), 7);
        Due.is(4, "the first line of 1,600 bytes", Edges.sound("boat 8;" + "\n".repeat(1593), 0).about(2), 8);
        Edges.faulty(" ".repeat(1594) + "boat 7", 2, 1600);
        Edges.faulty(" ".repeat(1599) + ";", 2, 1599);
        GravyRound y = new GravyRound();
        Due.is(4, "the empty text is a dinner", y.dinner(), 0);
        Due.is(5, "without a fault", y.fault(0), 0);
        Due.is(1, "no guests at first", y.about(0), 0);
    }

    // ---- tokens

    @Says("words (a .. z, 8 at most)")
    private static void words() {
        Edges.sound(line("a") + line("z") + line("azazazaz") + line("abcdefgh"), 4);
        Edges.faultyAt("guest !abcdefghi takes 1 slow 1;", 1);
        Edges.faultyAt("guest !" + "a".repeat(1594), 1);
        Edges.faultyAt("!guestguest a takes 1 slow 1;", 1);
        for (char c : new char[] {'`', '{', 'A', 'Z', '_', (char) ('a' + 128)}) {
            Edges.faultyAt("guest !" + c + " takes 1 slow 1;", 1);
            Edges.faultyAt("guest a!" + c + " takes 1 slow 1;", 1);
        }
        // two who are alike in their first seven letters, or but for one letter more
        Edges.sound(line("aaaaaaaa") + line("aaaaaaab") + line("aaaaaaa") + line("baaaaaaa"), 4);
    }

    @Says("N (1 to 4 digits)")
    private static void numbers() {
        Due.is(49, "one digit", Edges.sound("draw 7;", 0).about(7), 7);
        Due.is(49, "four digits", Edges.sound("draw 0999;", 0).about(7), 999);
        sound("cools 9999;");
        sound("cools 0000;");
        Edges.faultyAt("draw !00999;", 1);
        Edges.faultyAt("draw !00000;", 1);
        Edges.faultyAt("cools !10000;", 1);
        // what would be 5 in an int
        Edges.faultyAt("boat !4294967301;", 1);
        Edges.faultyAt("boat !" + "0".repeat(1595), 1);
    }

    @Says("signs ; ( ) < > = + - * / %")
    private static void everyByte() {
        for (int b = 0; b < 256; b++) {
            char c = (char) b;
            boolean begins = c >= 'a' && c <= 'z' || c >= '0' && c <= '9' || SIGNS.indexOf(c) >= 0;
            if (b == 32 || b == 10) {
                sound("" + c);
                sound("boat 5;" + c);
            } else {
                Edges.faulty("" + c, begins ? 2 : 1, 0);
                Edges.faulty("boat 5;" + c, begins ? 2 : 1, 7);
            }
        }
        sound("cools (1<2)+(1>2)+(1=2)-1*2/3%4;");
    }

    @Says("blanks (32, 10) part them or not")
    private static void blanks() {
        Due.is(49, "not parted", Edges.sound("boat12;heat34;", 0).about(2), 12);
        Due.is(49, "not parted", Edges.sound("boat12;heat34;", 0).about(3), 34);
        Due.is(49, "parted", Edges.sound("\n boat \n 12 \n\n ; ", 0).about(2), 12);
        Edges.faultyAt("boat 1 !2;", 2);
        Edges.faultyAt("boat 1\n!2;", 2);
        Edges.faultyAt("!bo at 12;", 2);
        for (char c : new char[] {9, 11, 12, 13, 31, 33, 160}) {
            Edges.faulty("boat" + c + "12;", 1, 4);
        }
    }

    @Says("each is as long as can be")
    private static void longTokens() {
        Edges.sound(line("orange") + line("nota") + line("an") + line("guestsx"), 4);
        Edges.faultyAt("!boata 5;", 2);
        Edges.faultyAt("cools !notheat;", 2);
        Edges.faultyAt("cools 1 !orheat;", 2);
        sound("cools not1 or1 and(1);");
        sound("cools guests;");
        Due.is(49, "one number of two digits", Edges.sound("cools 12;", 0).about(13), 1);
        Edges.faultyAt("guest atakes !1 slow 1;", 2);
    }

    @Says("no letter directly behind an N")
    private static void letterBehindNumber() {
        Edges.faultyAt("cools !1or 1;", 1);
        Edges.faultyAt("boat !5a;", 1);
        Edges.faultyAt("boat !5z;", 1);
        Edges.faultyAt("boat !0005slow;", 1);
        Edges.faultyAt("guest a takes !1slow 1;", 1);
        // behind a blank, or a sign, it may stand, and a number directly behind a letter
        sound("cools 1 or 1;");
        sound("cools 1\nor 1;");
        sound("cools 1*heat;");
        Edges.sound("guest a takes1 slow1;", 1);
    }

    @Says("Words that stand for themselves here are no NAMES.")
    private static void ownWords() {
        for (String word : OWN_WORDS) {
            Edges.faultyAt("guest !" + word + " takes 1 slow 1;", 2);
            Edges.faultyAt(A + "feud !" + word + " a;", 2);
            Edges.faultyAt(A + "feud a !" + word + ";", 2);
            String less = word.substring(1);
            String more = word.equals("guest") ? "guestz" : word + "s";
            Edges.sound(line(less) + line(more) + "feud " + more + " " + less + ";", 2);
        }
    }

    // ---- how many and how much may be told

    @Says("At most 7 GUESTS")
    private static void sevenGuests() {
        Edges.sound(SEVEN, 7);
        Edges.faultyAt(SEVEN + "!guest h takes 1 slow 1;", 2);
        Edges.faultyAt(SEVEN + "!guest", 2);
        Edges.faultyAt(SEVEN + "boat 1;!guest a takes 1 slow 1;", 2);
    }

    @Says("takes 0 .. 20")
    private static void takes() {
        GravyRound x = Edges.sound("guest a takes 0 slow 1;guest b takes 20 slow 1;guest c takes 0020 slow 1;", 3);
        Due.is(6, "guest(0, 1)", x.guest(0, 1), 0);
        Due.is(6, "guest(1, 1)", x.guest(1, 1), 20);
        Due.is(6, "guest(2, 1)", x.guest(2, 1), 20);
        Edges.faultyAt("guest a takes !21 slow 1;", 4);
        Edges.faultyAt("guest a takes !9999 slow 1;", 4);
        Edges.faultyAt("guest a takes !-1 slow 1;", 2);
    }

    @Says("slow 1 .. 9")
    private static void slow() {
        GravyRound x = Edges.sound("guest a takes 1 slow 1;guest b takes 1 slow 9;", 2);
        Due.is(6, "guest(0, 2)", x.guest(0, 2), 1);
        Due.is(6, "guest(1, 2)", x.guest(1, 2), 9);
        Edges.faultyAt("guest a takes 1 slow !0;", 4);
        Edges.faultyAt("guest a takes 1 slow !10;", 4);
        Edges.faultyAt("guest a takes 1 slow !0000;", 4);
        Edges.faultyAt("guest a takes 1 slow !9999;", 4);
    }

    @Says("10 FEUDS")
    private static void tenFeuds() {
        GravyRound x = Edges.sound(TEN, 7);
        Due.is(49, "about(1)", x.about(1), 10);
        Due.is(8, "feud(9, 0)", x.feud(9, 0), 1);
        Due.is(8, "feud(9, 1)", x.feud(9, 1), 5);
        Edges.faultyAt(TEN + "!feud b g;", 2);
        Edges.faultyAt(TEN + "!feud", 2);
    }

    @Says("of two GUESTS told ahead")
    private static void toldAhead() {
        Edges.faultyAt("feud !a b;" + AB, 5);
        Edges.faultyAt(A + "feud a !b;guest b takes 1 slow 1;", 5);
        Edges.faultyAt(A + "feud !b a;guest b takes 1 slow 1;", 5);
        Edges.sound(AB + "feud a b;guest c takes 1 slow 1;feud c a;", 3);
    }

    @Says("unlike")
    private static void unlike() {
        Edges.faultyAt(A + "feud a !a;", 3);
        Edges.faultyAt(AB + "feud b !b;", 3);
    }

    @Says("each two once in whatever order")
    private static void eachTwoOnce() {
        Edges.faultyAt(AB + "feud a b;feud a !b;", 3);
        Edges.faultyAt(AB + "feud a b;feud b !a;", 3);
        Edges.faultyAt(AB + "feud b a;heat 1;feud a !b;", 3);
        Edges.sound(Edges.guests(1, 1, 1) + "feud a b;feud a c;feud c b;", 3);
    }

    @Says("numbered as told, each sort by itself")
    private static void numbered() {
        GravyRound x = Edges.sound("heat 1;guest z takes 1 slow 1;boat 2;guest y takes 2 slow 2;feud y z;guest a takes 3 slow 3;"
            + "feud z a;", 3);
        for (int g = 0; g < 3; g++) {
            Due.is(6, "guest(" + g + ", 1)", x.guest(g, 1), g + 1);
        }
        Due.is(8, "feud(0, 0)", x.feud(0, 0), 1);
        Due.is(8, "feud(0, 1)", x.feud(0, 1), 0);
        Due.is(8, "feud(1, 0)", x.feud(1, 0), 0);
        Due.is(8, "feud(1, 1)", x.feud(1, 1), 2);
    }

    /** A number of the dinner: what it is if it is not told, told as little and as much as can be, and beyond that. */
    private static void setting(String word, int what, int most, int untold) {
        Due.is(49, word + " not told", Edges.sound("", 0).about(what), untold);
        Due.is(49, word + " 0", Edges.sound(word + " 0;", 0).about(what), 0);
        Due.is(49, word + " " + most, Edges.sound(word + " " + most + ";", 0).about(what), most);
        Edges.faultyAt(word + " !" + (most + 1) + ";", 4);
        Edges.faultyAt(word + " !9999;", 4);
        Edges.faultyAt(word + " !-1;", 2);
        Edges.faultyAt(word + " !;", 2);
    }

    @Says("boat (0 .. 99; 0)")
    private static void boat() {
        setting("boat", 2, 99, 0);
    }

    @Says("heat (0 .. 99; 0)")
    private static void heat() {
        setting("heat", 3, 99, 0);
    }

    @Says("across (0 .. 9; 3)")
    private static void across() {
        setting("across", 15, 9, 3);
    }

    @Says("leans (0 .. 100 of 100; 0)")
    private static void leans() {
        setting("leans", 16, 100, 0);
    }

    @Says("draw (0 .. 999; 0)")
    private static void draw() {
        setting("draw", 7, 999, 0);
    }

    @Says("once each")
    private static void onceEach() {
        for (String word : new String[] {"boat", "heat", "across", "cools", "leans", "draw"}) {
            Edges.faultyAt(word + " 1;!" + word + " 1;", 2);
            Edges.faultyAt(word + " 0;guest a takes 1 slow 1;!" + word + " 0;", 2);
        }
        Edges.sound("draw 1;leans 1;cools 1;across 1;heat 1;boat 1;" + A, 1);
    }

    @Says("60 units in all, 30 in one e")
    private static void thirtyUnits() {
        String thirty = "1" + "+1".repeat(29);
        Due.is(49, "30 units", Edges.sound("cools " + thirty + ";", 0).about(13), 30);
        Edges.faultyAt("cools " + thirty + "+!1;", 2);
        Edges.faultyAt("cools " + thirty + " or !1;", 2);
        Edges.faultyAt("cools " + thirty + " and not !1;", 2);
        Edges.faultyAt("cools " + thirty + " < !(1);", 2);
        Due.is(49, "30 units, one of them the brackets", Edges.sound("cools (" + "1*".repeat(28) + "1);", 0).about(13), 30);
        Edges.faultyAt("cools (" + "1*".repeat(29) + "!1);", 2);
        Due.is(49, "thirty units with all that can wait for another", Edges.sound("cools " + "0 or 1 and 1<1+1*(".repeat(4)
            + "0 or 1 and 1<1+1*1" + ")".repeat(4) + ";", 0).about(13), 30);
        Due.is(49, "no unit", Edges.sound("heat 5;", 0).about(13), 0);
        Due.is(49, "one unit", Edges.sound("cools heat;", 0).about(13), 1);
    }

    @Says("(a unit ( e ), or a one behind not, within 6 others at most)")
    private static void sixOthers() {
        sound("cools " + "(".repeat(7) + "1" + ")".repeat(7) + ";");
        sound("cools " + "not ".repeat(7) + "1;");
        sound("cools " + "(not ".repeat(3) + "(1)" + ")".repeat(3) + ";");
        Edges.faultyAt("cools " + "(".repeat(7) + "!(1" + ")".repeat(8) + ";", 2);
        Edges.faultyAt("cools " + "not ".repeat(7) + "!not 1;", 2);
        Edges.faultyAt("cools " + "(not ".repeat(3) + "(!(1" + ")".repeat(5) + ";", 2);
        // beside one another they are not within one another
        sound("cools " + "(".repeat(7) + "1" + ")".repeat(7) + "+" + "(".repeat(7) + "1" + ")".repeat(7) + ";");
        sound("cools " + "not ".repeat(7) + "1 and " + "not ".repeat(7) + "1;");
        sound("cools " + ("not ".repeat(7) + "1 or ").repeat(29) + "not ".repeat(7) + "0;");
    }

    // ---- faults

    @Says("FAULTS, the first by its place")
    private static void firstByPlace() {
        Edges.faultyAt("boat !100;@", 4);
        Edges.faultyAt("feud !a b;boat 100;", 5);
        Edges.faultyAt(AB + "feud a !a;@", 3);
        Edges.faultyAt("boat !;heat 100;@", 2);
        Edges.faultyAt("boat !@;heat;", 1);
        Edges.faultyAt("boat !100 @", 4);
    }

    @Says("(bytes from 0; the end: the text's length)")
    private static void places() {
        Edges.faulty("@", 1, 0);
        Edges.faulty(";", 2, 0);
        Edges.faulty(" @", 1, 1);
        Edges.faulty("boat", 2, 4);
        Edges.faulty("boat  \n", 2, 7);
        Edges.faulty("boat 5", 2, 6);
        Edges.faulty("cools (1 ", 2, 9);
        Edges.faulty("guest a takes 1 slow 1 ", 2, 23);
        Edges.faulty(AB + "feud a b", 2, AB.length() + 8);
    }

    @Says("at one place the least")
    private static void leastAtOnePlace() {
        // no token, and as such one that can't stand there either
        Edges.faultyAt("boat !@", 1);
        Edges.faultyAt("boat 5!@", 1);
        Edges.faultyAt("cools 1+!12345;", 1);
        Edges.faultyAt("cools " + "1+".repeat(30) + "!@", 1);
        Edges.faultyAt("boat !00100;", 1);
        Edges.faultyAt(A + "feud a !abcdefghi;", 1);
        // a word that can't stand there, which none of the guests has as a name either
        Edges.faultyAt("feud !seat seat;", 2);
        // a line too many, which tells a name again
        Edges.faultyAt(SEVEN + "!guest a takes 1 slow 1;", 2);
    }

    @Says("1 no TOKEN")
    private static void noToken() {
        for (String text : new String[] {"!@", "boat !?", "boat 5!.", "guest !A takes 1 slow 1;", "guest a!, takes 1 slow 1;",
            "cools !\"1\";", "cools 1 !& 1;", "cools 1!|1;", "cools 1;!#", "!\t", "boat 5;!\r\n"}) {
            Edges.faultyAt(text, 1);
        }
    }

    @Says("2 one that can't stand there")
    private static void misplaced() {
        for (String text : new String[] {"!a", "!5", "!(", "!takes 5;", "boat !a;", "boat !;", "boat 5 !heat 6;", "boat 5;!;",
            "guest !7 takes 1 slow 1;", "guest a !b takes 1 slow 1;", "guest a !slow 1 takes 1;", "guest a takes !;",
            "guest a takes 1 !1;", "guest a takes 1 slow !a;", "guest a takes 1 slow 1 !guest", "cools !;", "cools !);",
            "cools (!);", "cools 1!);", "cools (1!;", "cools 1 !1;", "cools 1 !not 1;", "cools 1<1!<1;", "cools !+1;",
            "cools not !or 1;", "cools 1+!not 1;", "cools 1<!not 1;", "cools !slow;", "cools !a;"}) {
            Edges.faultyAt(text, 2);
        }
        // a unit that is missing, where else the line could end
        for (String sign : new String[] {"or", "and", "or not", "and not", "<", ">", "=", "+", "-", "*", "/", "%"}) {
            Edges.faultyAt("cools 1 " + sign + " !;", 2);
            Edges.faultyAt("cools (1 " + sign + " !);", 2);
        }
    }

    @Says("(one of a sort too many or a second time: at the line's first word")
    private static void atTheFirstWord() {
        Edges.faultyAt(SEVEN + "!guest h takes 99 slow 99;", 2);
        Edges.faultyAt(SEVEN + "!guest @", 2);
        Edges.faultyAt(TEN + "!feud a b;", 2);
        Edges.faultyAt(TEN + "!feud h h;", 2);
        Edges.faultyAt("boat 1; !boat 100;", 2);
        Edges.faultyAt("cools 1;\n!cools", 2);
        Edges.faultyAt("draw 1;!draw @", 2);
    }

    @Says("a unit too many, what is within 7 others: at its first TOKEN, or the not)")
    private static void atTheFirstToken() {
        String thirty = "1+".repeat(30);
        Edges.faultyAt("cools " + thirty + "!1;", 2);
        Edges.faultyAt("cools " + thirty + "!heat;", 2);
        Edges.faultyAt("cools " + thirty + "!(1);", 2);
        Edges.faultyAt("cools " + "(".repeat(7) + " !(1", 2);
        Edges.faultyAt("cools " + "(".repeat(7) + " !not 1", 2);
        Edges.faultyAt("cools " + "not ".repeat(7) + "\n!not 1", 2);
        Edges.faultyAt("cools " + "not ".repeat(7) + "\n!( 1", 2);
        Edges.faultyAt("cools " + "(".repeat(7) + "1 and !not 1", 2);
    }

    @Says("3 a NAME told already, a FEUD with himself, or told already (at the second NAME)")
    private static void toldAlready() {
        Edges.faultyAt(AB + "guest !a takes 1 slow 1;", 3);
        Edges.faultyAt(AB + "guest !b takes 99 slow 1;", 3);
        Edges.faultyAt(AB + "feud b !b;", 3);
        Edges.faultyAt(AB + "feud b a;feud b !a;", 3);
        Edges.faultyAt(AB + "feud b a;feud a !b @", 3);
    }

    @Says("4 a number that can't be")
    private static void wrongNumber() {
        for (String text : new String[] {"guest a takes !21 slow 1;", "guest a takes 1 slow !0;", "guest a takes 1 slow !10;",
            "boat !100;", "heat !100;", "across !10;", "leans !101;", "draw !1000;", "boat !100"}) {
            Edges.faultyAt(text, 4);
        }
        // in a formula every number can be
        sound("cools 9999 * 0;");
    }

    @Says("5 a NAME that none of the GUESTS has")
    private static void nobody() {
        Edges.faultyAt("feud !a a;", 5);
        Edges.faultyAt(A + "feud !b b;", 5);
        Edges.faultyAt(A + "feud a !b;", 5);
        Edges.faultyAt(A + "feud a !aa;", 5);
        Edges.faultyAt(A + "feud !x @;", 5);
    }

    @Says("`NONE = -1`: There is none.")
    private static void none() {
        Due.is(1, "NONE", GravyRound.NONE, -1);
    }

    // ---- promises 1 to 5

    @Says(promise = 1, value = "An empty DINNER (OVER).")
    private static void newObject() {
        GravyRound x = new GravyRound();
        int[] want = {0, 0, 0, 0, -1, 0, 0, 0, 0, 0, 0, 0, 0, 0, 0, 3, 0};
        for (int i = 0; i < want.length; i++) {
            Due.is(1, "new, about(" + i + ")", x.about(i), want[i]);
        }
        Due.is(1, "it is over", x.minute(), -2);
        Due.is(1, "round()", x.round(), 0);
        Due.is(1, "no acts", x.undo(), false);
        Due.is(1, "no acts", x.redo(), false);
        Due.is(1, "no boxes", x.back(0), -1);
    }

    @Says(promise = 2, value = "Twenty bytes come behind those on the TAPE, of each number the highest first: how many there are")
    private static void highestFirst() {
        GravyRound x = new GravyRound();
        // "heat 98;boat 76;leans" is cut by the twentieth byte, " 54;" comes with the next
        Due.is(2, "feed", x.feed(0x68656174, 0x2039383b, 0x626f6174, 0x2037363b, 0x6c65616e), 20);
        Due.is(2, "feed", x.feed(0x73203534, 0x3b202020, BLANKS, BLANKS, BLANKS), 40);
        Due.is(2, "dinner()", x.dinner(), 0);
        Due.is(2, "heat", x.about(3), 98);
        Due.is(2, "boat", x.about(2), 76);
        Due.is(2, "leans", x.about(16), 54);
        // of a number below 0 too: bytes 255, 128, 0, 32
        for (int place = 0; place < 20; place++) {
            int[] v = {BLANKS, BLANKS, BLANKS, BLANKS, BLANKS};
            v[place / 4] = 0x20202020 ^ (0x20 ^ 0xff) << 24 - 8 * (place % 4);
            GravyRound y = new GravyRound();
            y.feed(v[0], v[1], v[2], v[3], v[4]);
            y.dinner();
            Due.is(2, "no token at " + place, y.fault(0), 1);
            Due.is(2, "no token at " + place, y.fault(1), place);
        }
    }

    @Says(promise = 2, value = "NONE, and nothing comes, if there would be more than 1,600")
    private static void fullTape() {
        GravyRound x = new GravyRound();
        for (int i = 1; i <= 80; i++) {
            Due.is(2, "feed number " + i, x.feed(BLANKS, BLANKS, BLANKS, BLANKS, BLANKS), 20 * i);
        }
        Due.is(2, "feed beyond 1,600", x.feed(-1, -1, -1, -1, -1), -1);
        Due.is(2, "nothing comes", x.about(12), 1600);
        for (int had = 1599; had > 1580; had--) {
            x.end(had);
            Due.is(2, "feed behind " + had, x.feed(-1, -1, -1, -1, -1), -1);
            Due.is(2, "nothing comes", x.about(12), had);
        }
        x.end(1580);
        Due.is(2, "feed behind 1,580", x.feed(BLANKS, BLANKS, BLANKS, BLANKS, BLANKS), 1600);
        Due.is(2, "not one byte came", x.dinner(), 0);
    }

    @Says(promise = 3, value = "The TAPE has its first n bytes: n")
    private static void endCuts() {
        GravyRound x = new GravyRound();
        Due.is(3, "end(0) of none", x.end(0), 0);
        Due.put(x, "boat 57;heat 9;");
        Due.is(3, "end(15) of 15", x.end(15), 15);
        Due.is(3, "nothing goes", x.about(12), 15);
        Due.is(3, "end(6)", x.end(6), 6);
        Due.is(3, "about(12)", x.about(12), 6);
        Due.put(x, ";");
        Due.is(3, "what comes, comes behind the cut", x.about(12), 7);
        Due.is(3, "dinner()", x.dinner(), 0);
        Due.is(3, "boat 5", x.about(2), 5);
        Due.is(3, "no heat", x.about(3), 0);
        Due.put(x, "@");
        Due.is(3, "end(0)", x.end(0), 0);
        Due.is(3, "about(12)", x.about(12), 0);
        Due.is(3, "the empty text", x.dinner(), 0);
        // what was cut off may not be read: a letter more, a digit more, an end
        Object[][] cuts = {{"boat 00051", 9}, {"guest abcdefghi", 14}, {"boat 5a", 6}, {"boat 5;", 6}};
        for (Object[] cut : cuts) {
            GravyRound y = new GravyRound();
            Due.put(y, (String) cut[0]);
            y.end((int) cut[1]);
            y.dinner();
            Due.is(3, "fault(0) of [" + cut[0] + "], cut", y.fault(0), 2);
            Due.is(3, "fault(1) of [" + cut[0] + "], cut", y.fault(1), (int) cut[1]);
        }
    }

    @Says(promise = 3, value = "NONE, doing nothing, if it has not so many, or n is below 0")
    private static void endRefused() {
        GravyRound x = new GravyRound();
        for (int n : Edges.beyond(0, 0)) {
            Due.is(3, "end(" + n + ") of none", x.end(n), -1);
        }
        Due.put(x, "boat 5;");
        String before = Edges.all(x);
        for (int n : Edges.beyond(0, 7)) {
            Due.is(3, "end(" + n + ") of seven", x.end(n), -1);
        }
        Edges.same(3, "end()", x, before);
        Due.is(3, "dinner()", x.dinner(), 0);
        Due.is(3, "the boat", x.about(2), 5);
        GravyRound full = new GravyRound();
        Due.put(full, " ".repeat(1600));
        Due.is(3, "end(1601)", full.end(1601), -1);
        Due.is(3, "end(1600)", full.end(1600), 1600);
    }

    /** A dinner with all in use: acts done and undone, something seen, something lying there, a full box, a later time. */
    private static GravyRound inUse() {
        GravyRound x = Due.dine(AB + "feud a b;boat 9;heat 50;leans 100;draw 5;across 4;cools 1+1;");
        x.later(7);
        x.seen(0, 0, false);
        Due.minutes(x, 2);
        x.undo();
        x.makeUp(0);
        x.warm(1);
        x.undo();
        x.image(1);
        x.tables();
        return x;
    }

    @Says(promise = 4, value = "The TAPE (empty then) is the DINNER")
    private static void tapeIsEmptyThen() {
        GravyRound x = new GravyRound();
        Due.put(x, A + "boat 5;");
        Due.is(4, "dinner()", x.dinner(), 1);
        Due.is(4, "the tape is empty", x.about(12), 0);
        Due.is(4, "dinner() of the empty tape", x.dinner(), 0);
        Due.is(4, "which tells of no boat", x.about(2), 0);
        Due.put(x, AB);
        Due.is(4, "dinner() of what came then", x.dinner(), 2);
    }

    @Says(promise = 4, value = {"(all as told, minute 0, no ACTS are kept, nothing is SEEN, nothing lies there, BOXES are empty then;"
        + " the TIME stays)"})
    private static void allAsTold() {
        GravyRound x = inUse();
        Due.is(4, "acts that can be undone", x.about(8), 2);
        Due.is(4, "acts that can be redone", x.about(9), 1);
        Due.is(4, "what lies there", x.about(14), 2);
        Due.put(x, "boat 3;" + Edges.guests(4, 1, 1) + "feud c b;");
        Due.is(4, "dinner()", x.dinner(), 3);
        int[] want = {3, 1, 3, 0, 0, 4, 0, 0, 0, 0, 0, 7, 0, 0, 0, 3, 0};
        for (int i = 0; i < want.length; i++) {
            Due.is(4, "about(" + i + ")", x.about(i), want[i]);
        }
        for (int g = 0; g < 3; g++) {
            Due.is(4, "guest(" + g + ", 0)", x.guest(g, 0), g);
            for (int what = 3; what <= 5; what++) {
                Due.is(4, "guest(" + g + ", " + what + ")", x.guest(g, what), 0);
            }
        }
        Due.is(4, "the feud is not ended", x.feud(0, 2), 0);
        Due.is(4, "undo()", x.undo(), false);
        Due.is(4, "redo()", x.redo(), false);
        for (int box = 0; box < 3; box++) {
            Due.is(4, "back(" + box + ")", x.back(box), -1);
        }
        Due.is(4, "untell(0)", x.untell(0), false);
        Due.is(4, "fits(7)", x.fits(7), 20);
        Due.is(4, "lies(0)", x.lies(0), -2);
        Due.is(4, "seen() is numbered from 0", x.seen(0, 0, true), 0);
    }

    /** How much of a heat of 60 goes in a minute, by a dinner told on an object that was used before. */
    private static void coolsThen(GravyRound x, String told, int less) {
        Due.put(x, Edges.guests(9) + "heat 60;" + told);
        Due.is(4, "dinner() with [" + told + "]", x.dinner(), 1);
        x.minute();
        Due.is(4, "it cools by [" + told + "]", 60 - x.about(3), less);
    }

    @Says(promise = 4, value = "(all as told")
    private static void nothingOfTheOneBefore() {
        GravyRound x = Due.dine(TEN + "boat 9;heat 9;across 9;leans 9;draw 9;cools not 1 < 2 or not 9 * (heat - left);");
        coolsThen(x, "", 4);
        Due.is(4, "no feuds", x.about(1), 0);
        Due.is(4, "no units", x.about(13), 0);
        Due.is(4, "across", x.about(15), 3);
        Due.is(4, "leans", x.about(16), 0);
        Due.is(4, "the seed", x.about(7), 0);
        coolsThen(x, "cools not 7;", 0);
        coolsThen(x, "cools 5;", 5);
        Due.is(4, "one unit", x.about(13), 1);
        coolsThen(x, "", 4);
        // nor of one that had a fault in the midst of all
        Due.put(x, TEN + "boat 9;heat 9;across 9;leans 9;draw 9;cools 50 + not");
        Due.is(4, "dinner() with a fault", x.dinner(), -1);
        x.end(0);
        coolsThen(x, "", 4);
        Due.is(4, "no feuds", x.about(1), 0);
        Due.is(4, "no units", x.about(13), 0);
        Due.put(x, "guest g takes 1 slow 1;guest a takes 1 slow 1;feud g a;");
        Due.is(4, "names and feuds may be told anew", x.dinner(), 2);
        Due.put(x, "guest a takes 1 slow 1;feud a g;");
        Due.is(4, "who is not there any more can have no feud", x.dinner(), -1);
        Due.is(5, "fault(0)", x.fault(0), 5);
    }

    @Says(promise = 4, value = "NONE: a FAULT (all stays)")
    private static void allStays() {
        GravyRound x = inUse();
        Due.put(x, "boat 3;guest c takes 1 slow 1;heat");
        Due.is(4, "the tape", x.about(12), 34);
        String before = Edges.all(x).replaceAll(" fault .* fits", " fits");
        Due.is(4, "dinner()", x.dinner(), -1);
        String now = Edges.all(x).replaceAll(" fault .* fits", " fits");
        Due.is(4, "all stays (1: yes)", now.equals(before) ? 1 : 0, 1);
        Due.is(4, "dinner() once more", x.dinner(), -1);
        Due.is(4, "redo()", x.redo(), true);
        Due.is(4, "what was warmed", x.about(3), 49);
        Due.is(4, "undo()", x.undo(), true);
        Due.is(4, "undo()", x.undo(), true);
        Due.is(4, "the feud", x.feud(0, 2), 0);
        Due.is(4, "back(1)", x.back(1), 1);
        Due.is(4, "the feud", x.feud(0, 2), 1);
        Due.is(4, "untell(0)", x.untell(0), true);
        Due.is(4, "b waits 5 minutes, by the feud that was not ended when it came to him", x.minute(), -1);
        Due.is(4, "it still cools by 2", x.about(3), 46);
    }

    @Says(promise = 5, value = "Of the latest dinner() what 0: its FAULT (0), 1: its place (NONE).")
    private static void latestFault() {
        GravyRound x = new GravyRound();
        Due.is(5, "fault(0) at first", x.fault(0), 0);
        Due.is(5, "fault(1) at first", x.fault(1), -1);
        Due.put(x, "@");
        Due.is(5, "fault(0) ahead of dinner()", x.fault(0), 0);
        x.dinner();
        Due.is(5, "fault(0)", x.fault(0), 1);
        Due.is(5, "fault(1)", x.fault(1), 0);
        x.end(0);
        Due.put(x, "boat 100;");
        Due.is(5, "fault(0) of the latest yet", x.fault(0), 1);
        x.dinner();
        Due.is(5, "fault(0)", x.fault(0), 4);
        Due.is(5, "fault(1)", x.fault(1), 5);
        x.end(0);
        x.dinner();
        Due.is(5, "fault(0) of a sound one", x.fault(0), 0);
        Due.is(5, "fault(1) of a sound one", x.fault(1), -1);
    }

    @Says(promise = 5, value = "NONE for another what.")
    private static void anotherFault() {
        GravyRound x = new GravyRound();
        Due.put(x, "boat 100;");
        x.dinner();
        for (int what : Edges.beyond(0, 1)) {
            Due.is(5, "fault(" + what + ")", x.fault(what), -1);
        }
    }
}
