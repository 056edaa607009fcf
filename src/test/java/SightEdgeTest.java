/** The boundary cases of what is seen (the Terms' fourth part) and of the promises 41 to 49, each sentence by a test of its own. */
final class SightEdgeTest {
    /** Behind the first one, who is slow by s: two minutes at seat 1, four at seat 2, then it is over. */
    private static final String THREE =
        "guest a takes 1 slow 5;guest b takes 1 slow 2;guest c takes 1 slow 1;feud c b;boat 9;heat 50;";
    private static final String ONE = Edges.guests(5);

    public static void main(String[] args) throws IllegalAccessException {
        Edges.run(SightEdgeTest.class);
    }

    /** How many fit, the least and the greatest of them, by this alone. */
    private static void fitting(String dinner, int minutes, int seat, boolean is, int... manyLeastMost) {
        GravyRound x = Due.dine(dinner);
        String told = "seen(" + minutes + ", " + seat + ", " + is + "): ";
        Due.is(41, told + "its number", x.seen(minutes, seat, is), 0);
        Due.is(44, told + "fits(0)", x.fits(0), manyLeastMost[0]);
        Due.is(45, told + "sure(0, 0)", x.sure(0, 0), manyLeastMost[1]);
        Due.is(45, told + "sure(1, 0)", x.sure(1, 0), manyLeastMost[2]);
    }

    // ---- what is seen

    @Says("SEEN, 30 at most")
    private static void thirty() {
        GravyRound x = Due.dine(THREE);
        for (int i = 0; i < 30; i++) {
            Due.is(41, "seen() number " + i, x.seen(i, 2, i >= 7 && i < 11), i);
            Due.is(49, "about(10)", x.about(10), i + 1);
        }
        Due.is(44, "all thirty count: it was at seat 2 from 7 up to 10", x.fits(0), 1);
        Due.is(45, "sure(0, 0)", x.sure(0, 0), 5);
        String before = Edges.all(x);
        Due.is(41, "the thirty-first", x.seen(0, 0, false), -1);
        Edges.same(41, "the thirty-first", x, before);
        Due.is(42, "untell(29)", x.untell(29), true);
        Due.is(41, "one being untold there are thirty yet", x.seen(0, 0, false), -1);
        Due.is(42, "untell(30)", x.untell(30), false);
    }

    @Says("is TOLD at a TIME (0 at first, goes on)")
    private static void times() {
        GravyRound x = Due.dine(THREE);
        Due.is(49, "about(11) at first", x.about(11), 0);
        x.seen(1, 0, false);
        Due.is(44, "fits(-1): ahead of all", x.fits(-1), 20);
        Due.is(44, "fits(0)", x.fits(0), 1);
        x.later(1000);
        Due.is(49, "about(11)", x.about(11), 1000);
        x.seen(1, 0, true);
        Due.is(44, "fits(999)", x.fits(999), 1);
        Due.is(44, "fits(1000)", x.fits(1000), 0);
        x.minute();
        x.undo();
        Due.is(49, "minutes and what is undone leave the time", x.about(11), 1000);
    }

    @Says("UNTOLD at a later one or the same")
    private static void untoldAtTheSame() {
        GravyRound x = Due.dine(THREE);
        x.later(5);
        x.seen(1, 0, false);
        Due.is(42, "untell(0) at the same time", x.untell(0), true);
        for (int k = 4; k <= 6; k++) {
            Due.is(44, "fits(" + k + "): it never counts", x.fits(k), 20);
        }
        x.seen(1, 0, false);
        x.later(2);
        Due.is(42, "untell(1) later", x.untell(1), true);
        int[] fits = {20, 1, 1, 20, 20};
        for (int k = 4; k <= 8; k++) {
            Due.is(44, "fits(" + k + ")", x.fits(k), fits[k - 4]);
        }
    }

    @Says("of the dinner as it was told (nothing done, nothing spilt), but for how slow the first GUEST is, which is not known")
    private static void asItWasTold() {
        GravyRound x = Due.dine(THREE + "leans 100;");
        x.change(1, 2);
        x.makeUp(0);
        x.pour(1);
        Due.minutes(x, 6);
        x.seen(10, 1, true);
        Due.is(44, "seat 1 is b's yet, for two minutes", x.fits(0), 2);
        Due.is(45, "sure(0, 0)", x.sure(0, 0), 9);
        x.seen(10, 2, false);
        x.seen(14, 2, true);
        Due.is(44, "seat 2 is c's, for four minutes, by the feud", x.fits(0), 2);
        x.seen(15, 2, true);
        Due.is(45, "sure(0, 0)", x.sure(0, 0), 10);
        for (int slow = 1; slow <= 9; slow++) {
            Due.is(44, "the first one's slow " + slow + " as told is not known", Due.dine(Edges.guests(slow, 1)).fits(0), 20);
        }
    }

    @Says("that behind so many MINUTES (0 .. 40) it stood at a SEAT (not OVER), or did not.")
    private static void stoodOrNot() {
        fitting(THREE, 0, 0, true, 20, 1, 20);
        fitting(THREE, 0, 0, false, 0, -1, -1);
        fitting(THREE, 0, 1, true, 0, -1, -1);
        fitting(THREE, 0, 1, false, 20, 1, 20);
        fitting(THREE, 10, 0, true, 10, 11, 20);
        fitting(THREE, 10, 1, true, 2, 9, 10);
        fitting(THREE, 10, 2, true, 4, 5, 8);
        fitting(THREE, 10, 2, false, 16, 1, 20);
        fitting(THREE, 25, 2, true, 1, 20, 20);
        fitting(THREE, 26, 2, true, 0, -1, -1);
        fitting(THREE, 40, 2, true, 0, -1, -1);
        fitting(THREE, 40, 2, false, 20, 1, 20);
        // over it stood nowhere
        fitting(ONE, 5, 0, true, 15, 6, 20);
        fitting(ONE, 5, 0, false, 5, 1, 5);
        // at the last minute that can be told: it is at seat 3 from s + 18 up to s + 26
        String four = Edges.guests(1, 9, 9, 9);
        fitting(four, 40, 3, true, 7, 14, 20);
        fitting(four, 40, 3, false, 13, 1, 13);
    }

    @Says("As known at k that counts that was TOLD at k or before, not UNTOLD at k or before.")
    private static void knownAt() {
        GravyRound x = Due.dine(THREE);
        x.later(10);
        x.seen(10, 1, true);
        x.later(10);
        x.untell(0);
        int[][] kFits = {{Integer.MIN_VALUE, 20}, {-1, 20}, {0, 20}, {9, 20}, {10, 2}, {11, 2}, {19, 2}, {20, 20}, {21, 20},
            {100000, 20}, {Integer.MAX_VALUE, 20}};
        for (int[] k : kFits) {
            Due.is(44, "fits(" + k[0] + ")", x.fits(k[0]), k[1]);
            Due.is(45, "sure(0, " + k[0] + ")", x.sure(0, k[0]), k[1] == 2 ? 9 : 1);
            Due.is(45, "sure(1, " + k[0] + ")", x.sure(1, k[0]), k[1] == 2 ? 10 : 20);
            Due.is(46, "ask(0, " + k[0] + ")", x.ask(0, k[0]), k[1] == 2 ? 9 : 13);
            Due.is(46, "ask(1, " + k[0] + ")", x.ask(1, k[0]), k[1] == 2 ? 1 : 7);
        }
        // what is not untold counts ever after
        GravyRound y = Due.dine(THREE);
        y.seen(10, 1, true);
        Due.is(44, "fits of the greatest k", y.fits(Integer.MAX_VALUE), 2);
        Due.is(44, "fits of the least k", y.fits(Integer.MIN_VALUE), 20);
    }

    @Says("FITS: how slow (1 .. 20) by which all that counts is so.")
    private static void oneToTwenty() {
        fitting(ONE, 1, 0, false, 1, 1, 1);
        fitting(ONE, 1, 0, true, 19, 2, 20);
        fitting(ONE, 19, 0, true, 1, 20, 20);
        fitting(ONE, 19, 0, false, 19, 1, 19);
        fitting(ONE, 20, 0, true, 0, -1, -1);
        fitting(ONE, 20, 0, false, 20, 1, 20);
        GravyRound x = Due.dine(ONE);
        Due.is(44, "fits(0) of nothing seen", x.fits(0), 20);
        x.seen(3, 0, true);
        x.seen(7, 0, false);
        Due.is(44, "fits(0): 4 to 7", x.fits(0), 4);
        Due.is(45, "sure(0, 0)", x.sure(0, 0), 4);
        Due.is(45, "sure(1, 0)", x.sure(1, 0), 7);
        x.seen(5, 0, true);
        x.seen(5, 0, false);
        Due.is(44, "fits(0) of what can't be", x.fits(0), 0);
        x.untell(3);
        Due.is(44, "fits(0): 6 and 7", x.fits(0), 2);
    }

    @Says("ASK: the number of MINUTES (0 .. 40) behind which to know at which SEAT it stood, or that it was OVER, would leave the fewest of"
        + " these at the most; of like ones the least.")
    private static void asking() {
        // one guest: behind m there are 20 - m at his seat, m are over
        GravyRound one = Due.dine(ONE);
        Due.is(46, "ask(0, 0) of one guest", one.ask(0, 0), 10);
        Due.is(46, "ask(1, 0) of one guest", one.ask(1, 0), 10);
        // two: behind m there are 20 - m, 1 and m - 1: ten at the most behind 10 and behind 11
        GravyRound two = Due.dine(Edges.guests(1, 1));
        Due.is(46, "ask(0, 0) of two", two.ask(0, 0), 10);
        Due.is(46, "ask(1, 0) of two", two.ask(1, 0), 10);
        // seven: three at each seat, behind 17, 18, 19 and 20
        GravyRound seven = Due.dine(Edges.guests(1, 3, 3, 3, 3, 3, 3));
        Due.is(46, "ask(0, 0) of seven", seven.ask(0, 0), 17);
        Due.is(46, "ask(1, 0) of seven", seven.ask(1, 0), 3);
        // behind 40 there are four at each of the last five seats; a minute less, and five are at one of them
        GravyRound late = Due.dine(Edges.guests(1, 9, 6, 4, 4, 4, 4) + "feud a b;across 9;");
        Due.is(46, "ask(0, 0), as late as can be", late.ask(0, 0), 40);
        Due.is(46, "ask(1, 0), as late as can be", late.ask(1, 0), 4);
        // the same would be so behind 41
        GravyRound tooLate = Due.dine(Edges.guests(1, 9, 7, 4, 4, 4, 4) + "feud a b;across 9;");
        Due.is(46, "ask(0, 0), later than can be", tooLate.ask(0, 0), 40);
        Due.is(46, "ask(1, 0), later than can be", tooLate.ask(1, 0), 5);
        // one left: nothing is to be asked for
        one.seen(1, 0, false);
        Due.is(46, "ask(0, 0) of one left", one.ask(0, 0), 0);
        Due.is(46, "ask(1, 0) of one left", one.ask(1, 0), 1);
        // 19 and 20 are told apart behind 19 first
        two.seen(18, 0, true);
        Due.is(46, "ask(0, 0) of the last two", two.ask(0, 0), 19);
        Due.is(46, "ask(1, 0) of the last two", two.ask(1, 0), 1);
        // 1 and 2 behind 1
        seven.seen(2, 0, false);
        Due.is(46, "ask(0, 0) of the first two", seven.ask(0, 0), 1);
        Due.is(46, "ask(1, 0) of the first two", seven.ask(1, 0), 1);
    }

    // ---- promises 41 to 46

    @Says(promise = 41, value = {"A SEEN (MINUTES 0 .. 40): its number", "NONE, doing nothing, if one can't be, there are 30, or no"
        + " GUESTS."})
    private static void seenRefused() {
        GravyRound x = Due.dine(THREE);
        String before = Edges.all(x);
        for (int minutes : Edges.beyond(0, 40)) {
            Due.is(41, "seen(" + minutes + ", 0, false)", x.seen(minutes, 0, false), -1);
        }
        for (int seat : Edges.beyond(0, 2)) {
            Due.is(41, "seen(0, " + seat + ", true)", x.seen(0, seat, true), -1);
            Due.is(41, "seen(0, " + seat + ", false)", x.seen(0, seat, false), -1);
        }
        Edges.same(41, "seen()", x, before);
        Due.is(41, "seen(0, 0, true)", x.seen(0, 0, true), 0);
        Due.is(41, "seen(40, 2, false)", x.seen(40, 2, false), 1);
        Due.is(44, "fits(0)", x.fits(0), 20);
        GravyRound none = new GravyRound();
        Due.is(41, "seen(0, 0, true) without guests", none.seen(0, 0, true), -1);
        Due.is(41, "seen(0, -1, true) without guests", none.seen(0, -1, true), -1);
        Due.is(49, "about(10)", none.about(10), 0);
        GravyRound full = Due.dine(ONE);
        for (int i = 0; i < 30; i++) {
            full.seen(0, 0, true);
        }
        Due.is(41, "seen() of thirty", full.seen(40, 0, false), -1);
        Due.is(49, "about(10)", full.about(10), 30);
    }

    @Says(promise = 42, value = "It is UNTOLD: true; false if it is so already, or there is none such.")
    private static void untellRefused() {
        GravyRound x = Due.dine(THREE);
        Due.is(42, "untell(0) of none", x.untell(0), false);
        x.seen(1, 0, false);
        x.seen(2, 0, false);
        for (int seen : Edges.beyond(0, 1)) {
            Due.is(42, "untell(" + seen + ")", x.untell(seen), false);
        }
        Due.is(44, "fits(0)", x.fits(0), 1);
        x.later(3);
        Due.is(42, "untell(0)", x.untell(0), true);
        Due.is(44, "fits(3)", x.fits(3), 2);
        x.later(3);
        Due.is(42, "untell(0) again", x.untell(0), false);
        Due.is(44, "it stays untold at 3", x.fits(3), 2);
        Due.is(44, "fits(2)", x.fits(2), 1);
        Due.is(42, "untell(1)", x.untell(1), true);
        Due.is(44, "fits(6)", x.fits(6), 20);
        Due.is(42, "untell(0) of a new object", new GravyRound().untell(0), false);
    }

    @Says(promise = 43, value = {"So much later (0 .. 1000): the TIME", "NONE, doing nothing, for another number, or if it would be above"
        + " 100,000."})
    private static void laterRefused() {
        GravyRound x = Due.dine(THREE);
        Due.is(43, "later(0)", x.later(0), 0);
        Due.is(43, "later(1)", x.later(1), 1);
        Due.is(43, "later(999)", x.later(999), 1000);
        String before = Edges.all(x);
        for (int by : Edges.beyond(0, 1000)) {
            Due.is(43, "later(" + by + ")", x.later(by), -1);
        }
        Edges.same(43, "later()", x, before);
        for (int i = 2; i <= 99; i++) {
            Due.is(43, "later(1000)", x.later(1000), 1000 * i);
        }
        Due.is(43, "later(999)", x.later(999), 99999);
        Due.is(43, "later(2): above 100,000", x.later(2), -1);
        Due.is(43, "later(1000): above 100,000", x.later(1000), -1);
        Due.is(49, "about(11)", x.about(11), 99999);
        Due.is(43, "later(1): 100,000", x.later(1), 100000);
        Due.is(43, "later(1): above 100,000", x.later(1), -1);
        Due.is(43, "later(0)", x.later(0), 100000);
        x.seen(1, 0, false);
        Due.is(44, "fits(99999)", x.fits(99999), 20);
        Due.is(44, "fits(100000)", x.fits(100000), 1);
    }

    @Says(promise = 44, value = "FITS: how many (0 without GUESTS).")
    private static void fitsEdges() {
        for (int k : new int[] {Integer.MIN_VALUE, -1, 0, 1, Integer.MAX_VALUE}) {
            Due.is(44, "fits(" + k + ") without guests", new GravyRound().fits(k), 0);
            Due.is(44, "fits(" + k + ") of one", Due.dine(ONE).fits(k), 20);
        }
        GravyRound x = Due.dine(ONE);
        x.end(0);
        x.dinner();
        Due.is(44, "fits(0), nobody being there any more", x.fits(0), 0);
    }

    @Says(promise = 45, value = {"The least of FITS (what 0), the greatest (1)", "NONE if none FITS, or for another what."})
    private static void sureRefused() {
        GravyRound x = Due.dine(THREE);
        for (int what : Edges.beyond(0, 1)) {
            Due.is(45, "sure(" + what + ", 0)", x.sure(what, 0), -1);
        }
        Due.is(45, "sure(0, 0)", x.sure(0, 0), 1);
        Due.is(45, "sure(1, 0)", x.sure(1, 0), 20);
        x.seen(0, 0, false);
        for (int what = -1; what <= 2; what++) {
            Due.is(45, "sure(" + what + ", 0), none fits", x.sure(what, 0), -1);
            Due.is(45, "sure(" + what + ", 0) without guests", new GravyRound().sure(what, 0), -1);
        }
        Due.is(45, "sure(0, -1)", x.sure(0, -1), 1);
    }

    @Says(promise = 46, value = {"ASK what 0: the number of MINUTES, 1: how many are left at the most", "NONE if none FITS, or for another"
        + " what."})
    private static void askRefused() {
        GravyRound x = Due.dine(THREE);
        for (int what : Edges.beyond(0, 1)) {
            Due.is(46, "ask(" + what + ", 0)", x.ask(what, 0), -1);
        }
        Due.is(46, "ask(0, 0)", x.ask(0, 0), 13);
        Due.is(46, "ask(1, 0)", x.ask(1, 0), 7);
        x.seen(0, 0, false);
        for (int what = -1; what <= 2; what++) {
            Due.is(46, "ask(" + what + ", 0), none fits", x.ask(what, 0), -1);
            Due.is(46, "ask(" + what + ", 0) without guests", new GravyRound().ask(what, 0), -1);
        }
        Due.is(46, "ask(0, -1)", x.ask(0, -1), 13);
    }

    // ---- images

    @Says(promise = 47, value = {"SEATS, what each GOT, the BOAT, HEAT, WAIT, FEUDS that are ENDED, the minute, the SEED are kept in a BOX"
        + " 0 .. 2: the minute", "NONE if there is none such."})
    private static void imageRefused() {
        GravyRound x = Due.dine(THREE + "leans 100;");
        String before = Edges.all(x);
        for (int box : Edges.beyond(0, 2)) {
            Due.is(47, "image(" + box + ")", x.image(box), -1);
        }
        Due.is(47, "image(0)", x.image(0), 0);
        Edges.same(47, "image()", x, before);
        String[] kept = new String[3];
        kept[0] = state(x);
        x.change(1, 2);
        Due.minutes(x, 6);
        x.makeUp(0);
        Due.is(47, "image(1)", x.image(1), 6);
        kept[1] = state(x);
        x.fallOut(0);
        x.pour(20);
        x.warm(9);
        Due.minutes(x, x.round());
        Due.is(47, "image(2) when over", x.image(2), 11);
        kept[2] = state(x);
        for (int box : new int[] {1, 0, 2, 0}) {
            x.back(box);
            Due.is(48, "all is as it was kept in " + box + " (1: yes)", state(x).equals(kept[box]) ? 1 : 0, 1);
        }
        // what is kept in a box anew takes the place of what was there
        x.minute();
        Due.is(47, "image(2) anew", x.image(2), 1);
        x.minute();
        Due.is(48, "back(2)", x.back(2), 1);
        Due.is(48, "back(1) is as it was", x.back(1), 6);
    }

    private static String state(GravyRound x) {
        StringBuilder b = new StringBuilder();
        for (int i = 2; i <= 7; i++) {
            b.append(x.about(i)).append(",");
        }
        for (int g = 0; g < 3; g++) {
            for (int what : new int[] {0, 3, 4, 5, 6}) {
                b.append(x.guest(g, what)).append(",");
            }
        }
        return b.append(x.feud(0, 2)).toString();
    }

    @Says(promise = 48, value = {"All is as it was kept (no ACTS are kept then): the minute", "NONE, doing nothing, if nothing was."})
    private static void backRefused() {
        GravyRound x = Due.dine(THREE);
        x.image(1);
        Due.minutes(x, 2);
        x.undo();
        x.tables();
        String before = Edges.all(x);
        Due.is(48, "back(0) of nothing", x.back(0), -1);
        Due.is(48, "back(2) of nothing", x.back(2), -1);
        for (int box : Edges.beyond(0, 2)) {
            Due.is(48, "back(" + box + ")", x.back(box), -1);
        }
        Edges.same(48, "back() of nothing", x, before);
        Due.is(48, "acts can be undone yet", x.about(8), 1);
        Due.is(48, "back(1)", x.back(1), 0);
        Due.is(48, "no acts are kept", x.about(8), 0);
        Due.is(48, "none undone either", x.about(9), 0);
        Due.is(48, "undo()", x.undo(), false);
        Due.is(48, "redo()", x.redo(), false);
        Due.is(48, "what lies there stays", x.about(14), 3);
        x.minute();
        Due.is(48, "an act behind it is kept", x.undo(), true);
        Due.is(48, "the minute", x.about(6), 0);
        x.end(0);
        x.dinner();
        for (int box = 0; box < 3; box++) {
            Due.is(48, "back(" + box + ") behind a new dinner", x.back(box), -1);
            Due.is(48, "back(" + box + ") of a new object", new GravyRound().back(box), -1);
        }
        GravyRound none = new GravyRound();
        none.pour(3);
        Due.is(47, "image(0) without guests", none.image(0), 0);
        none.pour(4);
        Due.is(48, "back(0) without guests", none.back(0), 0);
        Due.is(48, "the boat", none.about(2), 3);
    }

    // ---- about

    @Says(promise = 49, value = {"4: the SEAT where it stands (-1: OVER), 5: WAIT (0: OVER)"})
    private static void aboutOver() {
        GravyRound x = Due.dine(THREE);
        for (int m = 0; m < 11; m++) {
            int seat = m < 5 ? 0 : m < 7 ? 1 : 2;
            int wait = m < 5 ? 5 - m : m < 7 ? 7 - m : 11 - m;
            Due.is(49, "about(4) behind " + m, x.about(4), seat);
            Due.is(49, "about(5) behind " + m, x.about(5), wait);
            x.minute();
        }
        Due.is(49, "about(4) when over", x.about(4), -1);
        Due.is(49, "about(5) when over", x.about(5), 0);
        Due.is(49, "about(4) without guests", new GravyRound().about(4), -1);
        Due.is(49, "about(5) without guests", new GravyRound().about(5), 0);
    }

    @Says(promise = 49, value = "-2 for another what.")
    private static void aboutAnother() {
        GravyRound x = Due.dine(THREE);
        for (int what : Edges.beyond(0, 16)) {
            Due.is(49, "about(" + what + ")", x.about(what), -2);
        }
        for (int what = 0; what <= 16; what++) {
            Due.is(49, "about(" + what + ") is there (1: yes)", x.about(what) >= 0 ? 1 : 0, 1);
        }
    }

    @Says(promise = 49, value = {"What 0: GUESTS, 1: FEUDS, 2: what is in the BOAT, 3: HEAT", "6: the minute, 7: the SEED, 8: ACTS that"
        + " can be undone, 9: redone, 10: what is SEEN, 11: the TIME, 12: bytes on the TAPE, 13: units, 14: numbers that lie there,"
        + " 15: across, 16: leans in 100."})
    private static void aboutMost() {
        String seven = "";
        for (char c = 'a'; c <= 'g'; c++) {
            seven += "guest " + c + " takes 20 slow 9;";
        }
        GravyRound x = Due.dine(seven + Edges.feuds("ab bc cd de ef fg ac ad ae af") + "boat 99;heat 99;across 9;leans 100;draw 999;"
            + "cools " + "0+".repeat(29) + "0;");
        int[] most = {7, 10, 99, 99, 0, 9, 0, 999, 0, 0, 0, 0, 0, 30, 0, 9, 100};
        for (int i = 0; i < most.length; i++) {
            Due.is(49, "about(" + i + ")", x.about(i), most[i]);
        }
        x.tables();
        for (int i = 0; i < 30; i++) {
            x.seen(0, 0, true);
        }
        Due.put(x, " ".repeat(1600));
        Due.minutes(x, 41);
        x.undo();
        x.later(1000);
        int[] then = {7, 10, 57, 99, 2, 5, 40, 29, 39, 1, 30, 1000, 1600, 30, 7, 9, 100};
        for (int i = 0; i < then.length; i++) {
            Due.is(49, "about(" + i + ") then", x.about(i), then[i]);
        }
    }
}
