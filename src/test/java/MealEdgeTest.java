/** The boundary cases of the meal (the Terms' second part) and of the promises 6 to 19, each sentence by a test of its own. */
final class MealEdgeTest {
    /** The waits are 2, 1 + 2 and 3 + 2; five of heat go in each minute. */
    private static final String THREE = "guest a takes 3 slow 2;guest b takes 4 slow 1;guest c takes 5 slow 3;"
        + "feud b a;feud c b;boat 10;heat 80;across 2;draw 0;cools 5;";
    /** As slow as can be: it stands 9 minutes at the first seat, 18 at each of the six others. */
    private static final String SLOWEST = Edges.guests(9, 9, 9, 9, 9, 9, 9) + Edges.feuds("ab bc cd de ef fg") + "across 9;";

    public static void main(String[] args) throws IllegalAccessException {
        Edges.run(MealEdgeTest.class);
    }

    private static GravyRound over(String text) {
        GravyRound x = Due.dine(text);
        Due.minutes(x, x.round());
        Due.is(49, "it is over, about(4)", x.about(4), -1);
        return x;
    }

    // ---- how it is at first

    @Says("GUESTS sit in SEATS 0, 1, .. (as told, at first).")
    private static void seatsAtFirst() {
        GravyRound x = Due.dine(SLOWEST);
        for (int i = 0; i < 7; i++) {
            Due.is(7, "seat(" + i + ")", x.seat(i), i);
            Due.is(6, "guest(" + i + ", 0)", x.guest(i, 0), i);
        }
    }

    @Says("The BOAT has so much in it, and HEAT (as told, at first); it stands at a SEAT (0 at first) for so many minutes yet (WAIT)")
    private static void boatAtFirst() {
        GravyRound x = Due.dine("boat 99;heat 98;" + Edges.guests(7));
        int[] want = {99, 98, 0, 7};
        for (int i = 0; i < 4; i++) {
            Due.is(49, "about(" + (2 + i) + ")", x.about(2 + i), want[i]);
        }
        GravyRound y = Due.dine(Edges.guests(1));
        Due.is(49, "no boat told", y.about(2), 0);
        Due.is(49, "no heat told", y.about(3), 0);
        Due.is(49, "it stands", y.about(4), 0);
        Due.is(49, "as long as the least slow", y.about(5), 1);
    }

    @Says("OVER is it behind the last SEAT (at once, without GUESTS).")
    private static void whenOver() {
        GravyRound x = Due.dine("boat 5;heat 9;across 9;");
        Due.is(49, "without guests", x.about(4), -1);
        Due.is(49, "without guests, the wait", x.about(5), 0);
        Due.is(9, "without guests, minute()", x.minute(), -2);
        GravyRound y = Due.dine(Edges.guests(1));
        Due.is(49, "one guest", y.about(4), 0);
        Due.is(9, "one guest, minute()", y.minute(), 0);
        Due.is(49, "one guest, a minute later", y.about(4), -1);
        Due.is(49, "the wait", y.about(5), 0);
        GravyRound z = Due.dine(SLOWEST);
        Due.minutes(z, 116);
        Due.is(49, "at the last of seven", z.about(4), 6);
        Due.is(9, "the last minute", z.minute(), 6);
        Due.is(49, "behind the last of seven", z.about(4), -1);
    }

    @Says("WAIT of a SEAT to which it comes: how slow who sits there is, and as much more as across tells, if he has a FEUD that is"
        + " not ENDED with who sits in the SEAT ahead")
    private static void waits() {
        String four = Edges.guests(2, 3, 4, 1) + Edges.feuds("ba db cd");
        int[][] acrossAndWaits = {{9, 2, 12, 4, 10}, {0, 2, 3, 4, 1}, {1, 2, 4, 4, 2}};
        for (int[] want : acrossAndWaits) {
            GravyRound x = Due.dine(four + "across " + want[0] + ";");
            for (int seat = 0; seat < 4; seat++) {
                Due.is(49, "across " + want[0] + ", the wait at " + seat, x.about(5), want[1 + seat]);
                Due.minutes(x, want[1 + seat]);
                Due.is(49, "it goes on then", x.about(4), seat < 3 ? seat + 1 : -1);
            }
        }
        GravyRound x = Due.dine(four);
        Due.is(17, "across not told", x.round(), 2 + 6 + 4 + 4);
        Due.is(11, "the first feud ended", x.makeUp(0), 2 + 3 + 4 + 4);
        Due.is(11, "who don't sit side by side", x.makeUp(1), 2 + 3 + 4 + 4);
        Due.is(11, "all ended", x.makeUp(2), 2 + 3 + 4 + 1);
        Due.is(10, "side by side now", Due.dine(four).change(2, 3), 2 + 6 + 4 + 7);
    }

    @Says("(SEAT 0: no more)")
    private static void firstSeat() {
        GravyRound x = Due.dine(Edges.guests(2, 3, 4) + Edges.feuds("ab ca") + "across 9;");
        Due.is(49, "who has a feud with all", x.about(5), 2);
        Due.is(17, "and the last one's is not with who sits ahead", x.round(), 2 + 12 + 4);
        Due.is(49, "one guest", Due.dine("across 9;" + Edges.guests(9)).about(5), 9);
    }

    @Says("A GUEST has GOT so much (0 at first), so WARM (0 at first), is SERVED or not (not, at first).")
    private static void nothingGotAtFirst() {
        GravyRound x = Due.dine(THREE);
        for (int g = 0; g < 3; g++) {
            for (int what = 3; what <= 5; what++) {
                Due.is(6, "guest(" + g + ", " + what + ")", x.guest(g, what), 0);
            }
        }
        x.minute();
        Due.is(6, "not yet served", x.guest(0, 5), 0);
        x.minute();
        int[][] want = {{3, 70, 1}, {0, 0, 0}, {0, 0, 0}};
        for (int g = 0; g < 3; g++) {
            for (int what = 0; what < 3; what++) {
                Due.is(6, "guest(" + g + ", " + (3 + what) + ") behind two minutes", x.guest(g, 3 + what), want[g][what]);
            }
        }
    }

    // ---- the minute

    @Says("A MINUTE (till it is OVER)")
    private static void minutesTillOver() {
        GravyRound x = over(THREE);
        Due.is(9, "ten minutes", x.about(6), 10);
        Due.is(9, "minute()", x.minute(), -2);
        Due.is(9, "still ten", x.about(6), 10);
        Due.is(9, "it does not cool", x.about(3), 30);
    }

    private static void cooled(String told, int less) {
        GravyRound x = Due.dine("guest a takes 3 slow 9;guest b takes 0 slow 1;boat 40;heat 99;" + told);
        x.minute();
        Due.is(9, "the heat is less by [" + told + "]", 99 - x.about(3), less);
    }

    private static void cools(String formula, int less) {
        cooled("cools " + formula + ";", less);
    }

    @Says("the HEAT is less by what comes of cools (1 + heat / 20, if it is not told)")
    private static void coolsUntold() {
        int[][] edges = {{0, 0}, {1, 0}, {2, 1}, {19, 18}, {20, 18}, {21, 19}, {39, 37}, {40, 37}, {59, 56}, {60, 56}, {79, 75},
            {80, 75}, {98, 93}, {99, 94}};
        for (int[] edge : edges) {
            GravyRound x = Due.dine(Edges.guests(9) + "heat " + edge[0] + ";");
            x.minute();
            Due.is(9, "heat of " + edge[0] + " a minute later", x.about(3), edge[1]);
        }
        cooled("", 5);
        // told as nothing it is told
        cools("0", 0);
    }

    @Says("by heat")
    private static void heatInCools() {
        cools("heat", 99);
        cools("heat - 60", 39);
        GravyRound x = Due.dine(Edges.guests(9) + "heat 65;cools heat / 2;");
        int[] heat = {33, 17, 9, 5, 3, 2, 1, 1};
        for (int m = 0; m < 8; m++) {
            x.minute();
            Due.is(9, "by the heat ahead of cooling", x.about(3), heat[m]);
        }
    }

    @Says("left (what is in the BOAT)")
    private static void left() {
        GravyRound x = Due.dine(Edges.takers(7, 2, 1) + "boat 9;heat 90;cools left;");
        int[] heat = {81, 79, 79};
        for (int m = 0; m < 3; m++) {
            x.minute();
            Due.is(9, "by what was left ahead of serving", x.about(3), heat[m]);
        }
    }

    @Says("minute (how many there were; 0 at first)")
    private static void minuteInCools() {
        GravyRound x = Due.dine(Edges.guests(3, 2) + "heat 90;cools minute;");
        int[] heat = {90, 89, 87, 84, 80};
        for (int m = 0; m < 5; m++) {
            x.minute();
            Due.is(9, "heat behind minute " + m, x.about(3), heat[m]);
        }
    }

    @Says("seat (where it stands)")
    private static void seatInCools() {
        GravyRound x = Due.dine(Edges.guests(1, 2, 1) + "heat 90;cools 10 * seat;");
        int[] heat = {90, 80, 70, 50};
        for (int m = 0; m < 4; m++) {
            x.minute();
            Due.is(9, "by the seat ahead of handing on", x.about(3), heat[m]);
        }
    }

    @Says("guests (how many there are;")
    private static void guestsInCools() {
        for (int many = 1; many <= 7; many++) {
            GravyRound x = Due.dine(Edges.guests(1, 1, 1, 1, 1, 1, 1).substring(0, many * 23) + "heat 90;cools guests;");
            Due.is(9, "guests", x.about(0), many);
            x.minute();
            Due.is(9, "heat, guests " + many, x.about(3), 90 - many);
        }
    }

    @Says("ints, wrapping")
    private static void wrapping() {
        String least = "4096*4096*128";
        cools(least + "<0", 1);
        cools(least + "-1>0", 1);
        cools("0-" + least + "<0", 1);
        cools("0-" + least + "=" + least, 1);
        cools("4096*4096*64+4096*4096*64<0", 1);
        cools("4096*4096*256+5", 5);
        cools("9999*9999*22", 0);
        cools("9999*9999*43", 99);
        cools("9999*9999*9999*9999+9>0", 9999 * 9999 * 9999 * 9999 + 9 > 0 ? 1 : 0);
        // the least of all by -1 is itself, with no rest
        cools("(" + least + ")/(0-1)<0", 1);
        cools("(" + least + ")/(0-1)=" + least, 1);
        cools("(" + least + ")%(0-1)+7", 7);
    }

    @Says("/ cut, % its rest")
    private static void cutAndRest() {
        cools("7/2", 3);
        cools("1/2+4", 4);
        cools("10+(0-7)/2", 7);
        cools("10+7/(0-2)", 7);
        cools("10+(0-7)%4", 7);
        cools("10+7%(0-4)", 13);
        cools("10+(0-8)%4", 10);
        cools("3%4", 3);
        cools("4%4", 0);
    }

    @Says("both by 0: 0")
    private static void byNothing() {
        cools("7/0", 0);
        cools("7%0", 0);
        cools("9+7/0", 9);
        cools("9+7%0", 9);
        cools("9+0/0", 9);
        cools("9+0%0", 9);
        cools("9+(0-7)/(1-1)", 9);
        cools("9+7/seat", 9);
        cools("9+7%minute", 9);
        cools("9+7/0*5", 9);
    }

    @Says("relations, and, or, not are 1 or 0, of what is not 0)")
    private static void truths() {
        cools("1<2", 1);
        cools("2<2", 0);
        cools("3<2", 0);
        cools("2>1", 1);
        cools("2>2", 0);
        cools("1>2", 0);
        cools("2=2", 1);
        cools("2=3", 0);
        cools("0-1<0", 1);
        cools("5 and 3", 1);
        cools("5 and 0", 0);
        cools("0 and 5", 0);
        cools("(0-1) and 2", 1);
        cools("2 and (0-1)", 1);
        cools("5 or 0", 1);
        cools("0 or 5", 1);
        cools("0 or 0", 0);
        cools("0 or 0-3", 1);
        cools("0-3 or 0", 1);
        cools("not 0", 1);
        cools("not 1", 0);
        cools("not 5", 0);
        cools("not (0-5)", 0);
        cools("not not 5", 1);
        cools("(2<3)*40", 40);
        cools("(7 or 0)*40", 40);
        cools("(7 and 9)*40", 40);
        // as many as can be: seven nots ahead of each of thirty units, and all that can wait for another
        cools(("not ".repeat(7) + "1 or ").repeat(29) + "not ".repeat(7) + "0", 1);
        cools(("not ".repeat(7) + "1 or ").repeat(29) + "not ".repeat(7) + "1", 0);
        cools("0 or 1 and 1<1+1*(".repeat(4) + "0 or 1 and 1<1+1*1" + ")".repeat(4), 1);
        cools("0 or 1 and 1<1+1*(".repeat(4) + "0 or 1 and 1<1+1*0" + ")".repeat(4), 0);
        // not takes what stands up to and, with its relation
        cools("not 1<0", 1);
        cools("not 0 and 0", 0);
        cools("1 or 0 and 0", 1);
    }

    @Says("0 at least, 99 at most (HEAT 0 at least)")
    private static void noLessThanNothing() {
        cools("0-1", 0);
        cools("0-9999", 0);
        cools("0", 0);
        cools("98", 98);
        cools("99", 99);
        cools("100", 99);
        cools("9999", 99);
        int[][] heatLessThen = {{5, 4, 1}, {5, 5, 0}, {5, 6, 0}, {0, 1, 0}, {0, 9999, 0}, {1, 99, 0}};
        for (int[] h : heatLessThen) {
            GravyRound x = Due.dine(Edges.guests(9) + "heat " + h[0] + ";cools " + h[1] + ";");
            x.minute();
            Due.is(9, "heat " + h[0] + " less " + h[1], x.about(3), h[2]);
            x.minute();
            Due.is(9, "and less again", x.about(3), Math.max(0, h[2] - h[1]));
        }
    }

    @Says("WAIT is 1 less; if that is 0, who sits there is SERVED")
    private static void servedAtNothing() {
        GravyRound x = Due.dine(Edges.guests(3, 1));
        for (int wait = 3; wait > 1; wait--) {
            Due.is(49, "the wait", x.about(5), wait);
            Due.is(9, "minute() at a wait of " + wait, x.minute(), -1);
            Due.is(6, "nobody is served", x.guest(0, 5), 0);
        }
        Due.is(49, "the wait", x.about(5), 1);
        Due.is(9, "minute() at a wait of 1", x.minute(), 0);
        Due.is(6, "he is served", x.guest(0, 5), 1);
        Due.is(9, "minute() at a wait of 1", x.minute(), 1);
    }

    @Says("he has GOT what he takes, or what is left, if that is less, as WARM as the HEAT is")
    private static void whatIsLeft() {
        int[][] boatTakesGot = {{9, 3, 3}, {3, 3, 3}, {2, 3, 2}, {0, 3, 0}, {0, 0, 0}, {9, 0, 0}, {99, 20, 20}, {19, 20, 19}};
        for (int[] b : boatTakesGot) {
            GravyRound x = Due.dine(Edges.takers(b[1], 1) + "boat " + b[0] + ";heat 30;cools 7;");
            x.minute();
            String told = "boat " + b[0] + ", takes " + b[1];
            Due.is(6, "got, " + told, x.guest(0, 3), b[2]);
            Due.is(6, "as warm as it is behind the cooling, " + told, x.guest(0, 4), 23);
            Due.is(6, "served, " + told, x.guest(0, 5), 1);
            Due.is(49, "left, " + told, x.about(2), b[0] - b[2]);
        }
    }

    @Says("it stands at the next SEAT then, with its WAIT (by what is so then), or is OVER")
    private static void nextSeat() {
        String two = Edges.guests(1, 1) + "feud a b;across 5;";
        GravyRound x = Due.dine(two);
        x.minute();
        Due.is(49, "the next seat", x.about(4), 1);
        Due.is(49, "its wait", x.about(5), 6);
        GravyRound y = Due.dine(two);
        y.makeUp(0);
        y.minute();
        Due.is(49, "its wait, the feud being ended then", y.about(5), 1);
        Due.is(12, "too late", y.fallOut(0), 1);
        y.minute();
        Due.is(49, "over", y.about(4), -1);
        Due.is(49, "no wait", y.about(5), 0);
    }

    @Says("the SEED (draw, at first) becomes its 137-fold and 71 more, modulo 1,000")
    private static void seeds() {
        int[][] drawThen = {{0, 71}, {1, 208}, {999, 934}, {817, 0}, {44, 99}, {517, 900}, {6, 893}, {7, 30}};
        for (int[] d : drawThen) {
            GravyRound x = Due.dine(Edges.guests(2, 1) + "draw " + d[0] + ";");
            Due.is(49, "the seed at first", x.about(7), d[0]);
            x.minute();
            Due.is(49, "nobody is served: the seed stays", x.about(7), d[0]);
            x.minute();
            Due.is(49, "the seed behind " + d[0], x.about(7), d[1]);
            x.minute();
            Due.is(49, "and once more", x.about(7), (d[1] * 137 + 71) % 1000);
            x.minute();
            Due.is(49, "over: it stays", x.about(7), (d[1] * 137 + 71) % 1000);
        }
    }

    @Says("if its rest by 100 is less than leans tells, 1 is spilt (0 at least in it)")
    private static void spilling() {
        // the seed becomes 0, 900, 71, 99, 934
        int[][] drawLeansLeft = {{817, 0, 8}, {817, 1, 7}, {517, 0, 8}, {517, 1, 7}, {0, 71, 8}, {0, 72, 7}, {44, 99, 8},
            {44, 100, 7}, {999, 34, 8}, {999, 35, 7}};
        for (int[] d : drawLeansLeft) {
            GravyRound x = Due.dine(Edges.takers(1) + "boat 9;draw " + d[0] + ";leans " + d[1] + ";");
            x.minute();
            Due.is(9, "left, draw " + d[0] + ", leans " + d[1], x.about(2), d[2]);
            Due.is(9, "he has got it all the same", x.guest(0, 3), 1);
        }
        int[][] boatLeft = {{0, 0}, {1, 0}, {2, 0}, {3, 1}};
        for (int[] b : boatLeft) {
            GravyRound x = Due.dine(Edges.takers(1, 0) + "leans 100;boat " + b[0] + ";");
            x.minute();
            Due.is(9, "left of " + b[0], x.about(2), b[1]);
            x.minute();
            Due.is(9, "left of " + b[0] + " at the end", x.about(2), 0);
        }
        GravyRound slow = Due.dine("guest a takes 1 slow 2;boat 9;leans 100;");
        slow.minute();
        Due.is(9, "nobody is served: nothing is spilt", slow.about(2), 9);
    }

    @Says("The minute goes up by 1.")
    private static void minuteGoesUp() {
        GravyRound x = Due.dine(Edges.guests(2, 1));
        for (int m = 0; m < 3; m++) {
            Due.is(49, "the minute", x.about(6), m);
            x.minute();
        }
        Due.is(49, "the minute at the end", x.about(6), 3);
        x.minute();
        Due.is(49, "and no further", x.about(6), 3);
    }

    // ---- the acts

    @Says("two who sit behind the SEAT where it stands change SEATS")
    private static void whoMayChange() {
        GravyRound x = Due.dine(Edges.guests(1, 1, 1, 1));
        for (int stand = 0; stand < 4; stand++) {
            for (int a = 0; a < 4; a++) {
                for (int b = 0; b < 4; b++) {
                    boolean can = a != b && a > stand && b > stand;
                    Due.is(10, "change(" + a + ", " + b + ") at " + stand, x.change(a, b), can ? 4 - stand : -1);
                    if (can) {
                        x.change(a, b);
                    }
                }
            }
            x.minute();
        }
        Due.is(10, "change(2, 3) when over", x.change(2, 3), -1);
    }

    @Says("a FEUD that is not ENDED is ENDED, or begins again (WAIT as it is at hand stays)")
    private static void waitAtHand() {
        String two = Edges.guests(1, 1, 1) + Edges.feuds("ab bc") + "across 5;";
        GravyRound x = Due.dine(two);
        x.minute();
        Due.is(11, "it is at him: his wait stays", x.makeUp(0), 6 + 6);
        Due.is(49, "about(5)", x.about(5), 6);
        Due.is(11, "who comes next", x.makeUp(1), 6 + 1);
        GravyRound y = Due.dine(two);
        y.makeUp(0);
        y.minute();
        Due.is(12, "begun again: his wait stays", y.fallOut(0), 1 + 6);
        Due.is(49, "about(5)", y.about(5), 1);
    }

    @Says("UNDO takes back the latest ACT that was not, REDO does that again which was taken back last (till another ACT)")
    private static void undoAndRedo() {
        GravyRound x = Due.dine(THREE + "leans 100;");
        String[] then = new String[8];
        then[0] = state(x);
        for (int act = 1; act <= 7; act++) {
            switch (act) {
                case 2: x.change(1, 2); break;
                case 3: x.makeUp(1); break;
                case 4: x.fallOut(1); break;
                case 5: x.pour(5); break;
                case 6: x.warm(7); break;
                // nobody is served in the first, a in the last, and one is spilt
                default: x.minute(); break;
            }
            then[act] = state(x);
            Due.is(15, "act " + act + " makes it otherwise (1: yes)", then[act].equals(then[act - 1]) ? 0 : 1, 1);
        }
        for (int act = 6; act >= 0; act--) {
            Due.is(15, "undo()", x.undo(), true);
            Due.is(15, "as behind act " + act + " (1: yes)", state(x).equals(then[act]) ? 1 : 0, 1);
            Due.is(49, "about(9)", x.about(9), 7 - act);
        }
        for (int act = 1; act <= 7; act++) {
            Due.is(16, "redo()", x.redo(), true);
            Due.is(16, "as behind act " + act + " (1: yes)", state(x).equals(then[act]) ? 1 : 0, 1);
        }
        GravyRound y = Due.dine(THREE);
        y.pour(1);
        y.pour(2);
        y.pour(3);
        y.undo();
        y.undo();
        Due.is(16, "redo(): that which was taken back last", y.redo(), true);
        Due.is(16, "the boat", y.about(2), 13);
        y.undo();
        y.warm(1);
        Due.is(16, "another act: no redo()", y.redo(), false);
        Due.is(49, "about(9)", y.about(9), 0);
        Due.is(49, "about(8)", y.about(8), 2);
        Due.is(15, "undo()", y.undo(), true);
        Due.is(15, "what was warmed", y.about(3), 80);
        Due.is(15, "not what was poured in", y.about(2), 11);
    }

    /** What acts can make otherwise, of three guests and two feuds. */
    private static String state(GravyRound x) {
        StringBuilder b = new StringBuilder();
        for (int i = 2; i <= 7; i++) {
            b.append(x.about(i)).append(",");
        }
        for (int g = 0; g < 3; g++) {
            b.append(x.seat(g)).append(",").append(x.guest(g, 3)).append(",").append(x.guest(g, 4)).append(",").append(x.guest(g, 5))
                .append(";");
        }
        return b.append(x.feud(0, 2)).append(x.feud(1, 2)).toString();
    }

    @Says("(till another ACT)")
    private static void refusedIsNoAct() {
        GravyRound x = Due.dine(THREE);
        x.pour(20);
        x.undo();
        x.pour(0);
        x.pour(21);
        x.warm(0);
        x.change(0, 1);
        x.makeUp(2);
        x.fallOut(0);
        x.soonest();
        x.image(0);
        x.seen(0, 0, true);
        x.later(1);
        Due.is(49, "what was refused, and what is no act, leaves it", x.about(9), 1);
        Due.is(16, "redo()", x.redo(), true);
        Due.is(16, "the boat", x.about(2), 30);
        GravyRound y = over(Edges.guests(1));
        y.warm(1);
        y.undo();
        y.minute();
        Due.is(16, "nor does a minute when it is over", y.redo(), true);
    }

    @Says("40 at most are kept, the oldest go.")
    private static void fortyActs() {
        GravyRound x = Due.dine("boat 0;");
        for (int i = 1; i <= 43; i++) {
            x.pour(1);
            Due.is(49, "kept behind " + i, x.about(8), Math.min(40, i));
        }
        for (int i = 1; i <= 40; i++) {
            Due.is(15, "undo() number " + i, x.undo(), true);
            Due.is(49, "the boat", x.about(2), 43 - i);
        }
        Due.is(15, "the oldest three are gone", x.undo(), false);
        Due.is(49, "about(9)", x.about(9), 40);
        for (int i = 1; i <= 40; i++) {
            Due.is(16, "redo() number " + i, x.redo(), true);
            Due.is(49, "the boat", x.about(2), 3 + i);
        }
        Due.is(16, "no more", x.redo(), false);
        for (int i = 0; i < 10; i++) {
            x.undo();
        }
        Due.is(49, "about(8)", x.about(8), 30);
        Due.is(49, "about(9)", x.about(9), 10);
        x.pour(20);
        Due.is(49, "about(8)", x.about(8), 31);
        Due.is(49, "about(9)", x.about(9), 0);
        x.undo();
        Due.is(49, "the boat", x.about(2), 33);
    }

    // ---- promises 6 to 19

    @Says(promise = 6, value = {"5: 1 if SERVED, else 0", "6: with whom he has a FEUD that is not ENDED, as bits",
        "NONE if there is none such, or for another what."})
    private static void guestEdges() {
        GravyRound x = Due.dine(SLOWEST);
        for (int g : Edges.beyond(0, 6)) {
            for (int what = 0; what <= 6; what++) {
                Due.is(6, "guest(" + g + ", " + what + ")", x.guest(g, what), -1);
            }
        }
        for (int what : Edges.beyond(0, 6)) {
            Due.is(6, "guest(6, " + what + ")", x.guest(6, what), -1);
        }
        int[] foes = {2, 5, 10, 20, 40, 80, 32};
        for (int g = 0; g < 7; g++) {
            Due.is(6, "guest(" + g + ", 6)", x.guest(g, 6), foes[g]);
        }
        for (int what = 0; what <= 6; what++) {
            Due.is(6, "guest(0, " + what + ") of nobody", new GravyRound().guest(0, what), -1);
            Due.is(6, "guest(1, " + what + ") of one", Due.dine(Edges.guests(1)).guest(1, what), -1);
        }
        x.makeUp(0);
        Due.is(6, "guest(0, 6), that being ended", x.guest(0, 6), 0);
        Due.is(6, "guest(1, 6), that being ended", x.guest(1, 6), 4);
        GravyRound y = Due.dine(Edges.takers(0));
        Due.is(6, "guest(0, 5)", y.guest(0, 5), 0);
        y.minute();
        Due.is(6, "guest(0, 5), who takes nothing", y.guest(0, 5), 1);
    }

    @Says(promise = 7, value = "Who sits in a SEAT; NONE if there is none such.")
    private static void seatEdges() {
        GravyRound x = Due.dine(SLOWEST);
        Due.is(7, "seat(0)", x.seat(0), 0);
        Due.is(7, "seat(6)", x.seat(6), 6);
        for (int s : Edges.beyond(0, 6)) {
            Due.is(7, "seat(" + s + ")", x.seat(s), -1);
        }
        Due.is(7, "seat(0) of nobody", new GravyRound().seat(0), -1);
        Due.is(7, "seat(1) of one", Due.dine(Edges.guests(1)).seat(1), -1);
        GravyRound y = over(Edges.guests(1, 1));
        Due.is(7, "seat(1) when over", y.seat(1), 1);
    }

    @Says(promise = 8, value = {"2: 1 if ENDED, else 0", "NONE if there is none such, or for another what."})
    private static void feudEdges() {
        GravyRound x = Due.dine(Edges.guests(1, 1, 1, 1, 1) + Edges.feuds("ab ac ad ae bc bd be cd ce de"));
        for (int f : Edges.beyond(0, 9)) {
            for (int what = 0; what <= 2; what++) {
                Due.is(8, "feud(" + f + ", " + what + ")", x.feud(f, what), -1);
            }
        }
        for (int what : Edges.beyond(0, 2)) {
            Due.is(8, "feud(9, " + what + ")", x.feud(9, what), -1);
        }
        Due.is(8, "feud(9, 0)", x.feud(9, 0), 3);
        Due.is(8, "feud(9, 1)", x.feud(9, 1), 4);
        Due.is(8, "feud(9, 2)", x.feud(9, 2), 0);
        x.makeUp(9);
        Due.is(8, "feud(9, 2)", x.feud(9, 2), 1);
        Due.is(8, "feud(8, 2)", x.feud(8, 2), 0);
        Due.is(8, "feud(0, 0) of none", Due.dine(Edges.guests(1, 1)).feud(0, 0), -1);
    }

    @Says(promise = 9, value = "who is SERVED in it (-1: nobody)")
    private static void nobodyServed() {
        GravyRound x = Due.dine("guest a takes 0 slow 2;guest b takes 9 slow 1;guest c takes 9 slow 1;");
        x.change(1, 2);
        int[] served = {-1, 0, 2, 1};
        for (int m = 0; m < 4; m++) {
            Due.is(9, "minute " + m, x.minute(), served[m]);
        }
    }

    @Says(promise = 9, value = "-2, doing nothing, if it is OVER")
    private static void minuteWhenOver() {
        GravyRound x = over(THREE + "leans 50;");
        x.tables();
        String before = Edges.all(x);
        Due.is(9, "minute()", x.minute(), -2);
        Edges.same(9, "minute()", x, before);
        x.undo();
        Due.is(9, "minute() a minute back", x.minute(), 2);
        GravyRound y = Due.dine("boat 9;heat 50;leans 100;draw 5;");
        before = Edges.all(y);
        Due.is(9, "minute() without guests", y.minute(), -2);
        Edges.same(9, "minute() without guests", y, before);
    }

    @Says(promise = 10, value = "Two change SEATS (by their numbers as GUESTS): ROUND then")
    private static void changeByGuest() {
        GravyRound x = Due.dine(Edges.guests(1, 2, 3, 4) + "feud a d;across 9;");
        Due.is(10, "change(1, 3)", x.change(1, 3), 10 + 9);
        int[][] seats = {{0, 3, 2, 1}, {0, 2, 3, 1}};
        for (int s = 0; s < 4; s++) {
            Due.is(7, "seat(" + s + ")", x.seat(s), seats[0][s]);
        }
        Due.is(10, "change(3, 2)", x.change(3, 2), 10);
        for (int s = 0; s < 4; s++) {
            Due.is(7, "seat(" + s + ")", x.seat(s), seats[1][s]);
        }
        Due.is(49, "two acts", x.about(8), 2);
    }

    @Says(promise = 10, value = "NONE, doing nothing, if both are one, one is not BEHIND, or can't be.")
    private static void changeRefused() {
        GravyRound x = Due.dine(Edges.guests(1, 1, 1, 1));
        x.minute();
        String before = Edges.all(x);
        for (int g = 0; g < 4; g++) {
            Due.is(10, "change(" + g + ", " + g + ")", x.change(g, g), -1);
            for (int served = 0; served < 2; served++) {
                Due.is(10, "change(" + g + ", " + served + ")", x.change(g, served), -1);
                Due.is(10, "change(" + served + ", " + g + ")", x.change(served, g), -1);
            }
        }
        for (int g : Edges.beyond(0, 3)) {
            Due.is(10, "change(" + g + ", 2)", x.change(g, 2), -1);
            Due.is(10, "change(2, " + g + ")", x.change(2, g), -1);
            Due.is(10, "change(" + g + ", " + g + ")", x.change(g, g), -1);
        }
        Edges.same(10, "change()", x, before);
        Due.is(10, "change(2, 3) then", x.change(2, 3), 3);
        GravyRound y = over(Edges.guests(1, 1, 1));
        before = Edges.all(y);
        Due.is(10, "change(1, 2) when over", y.change(1, 2), -1);
        Edges.same(10, "change() when over", y, before);
    }

    @Says(promise = 11, value = "NONE, doing nothing, if it is, or there is none such.")
    private static void makeUpRefused() {
        GravyRound x = Due.dine(THREE);
        Due.is(11, "makeUp(1)", x.makeUp(1), 8);
        String before = Edges.all(x);
        Due.is(11, "makeUp(1) again", x.makeUp(1), -1);
        for (int f : Edges.beyond(0, 1)) {
            Due.is(11, "makeUp(" + f + ")", x.makeUp(f), -1);
        }
        Edges.same(11, "makeUp()", x, before);
        Due.is(11, "makeUp(0)", x.makeUp(0), 6);
        GravyRound y = Due.dine(Edges.guests(1, 1));
        Due.is(11, "makeUp(0) of none", y.makeUp(0), -1);
        Due.is(11, "no act", y.about(8), 0);
        GravyRound ten = Due.dine(Edges.guests(1, 1, 1, 1, 1) + Edges.feuds("ab ac ad ae bc bd be cd ce de"));
        Due.is(11, "makeUp(9) of ten", ten.makeUp(9), 5 + 9);
        Due.is(11, "makeUp(10) of ten", ten.makeUp(10), -1);
        Due.is(11, "makeUp(0) when over", over(THREE).makeUp(0), 0);
    }

    @Says(promise = 12, value = "NONE, doing nothing, if it is not ENDED, or there is none such.")
    private static void fallOutRefused() {
        GravyRound x = Due.dine(THREE);
        x.makeUp(0);
        String before = Edges.all(x);
        Due.is(12, "fallOut(1)", x.fallOut(1), -1);
        for (int f : Edges.beyond(0, 1)) {
            Due.is(12, "fallOut(" + f + ")", x.fallOut(f), -1);
        }
        Edges.same(12, "fallOut()", x, before);
        Due.is(12, "fallOut(0)", x.fallOut(0), 10);
        before = Edges.all(x);
        Due.is(12, "fallOut(0) again", x.fallOut(0), -1);
        Edges.same(12, "fallOut() again", x, before);
        Due.is(12, "fallOut(0) of none", new GravyRound().fallOut(0), -1);
        GravyRound y = over(THREE);
        y.makeUp(1);
        Due.is(12, "fallOut(1) when over", y.fallOut(1), 0);
    }

    @Says(promise = 13, value = "Gravy is poured in (1 .. 20; 99 at most): how much there is")
    private static void pouredIn() {
        int[][] boatPourThen = {{0, 1, 1}, {0, 20, 20}, {79, 20, 99}, {80, 20, 99}, {98, 1, 99}, {98, 2, 99}, {98, 20, 99}, {97, 1, 98}};
        for (int[] b : boatPourThen) {
            GravyRound x = Due.dine("boat " + b[0] + ";");
            Due.is(13, "pour(" + b[1] + "), boat " + b[0], x.pour(b[1]), b[2]);
            Due.is(13, "about(2)", x.about(2), b[2]);
            Due.is(13, "an act", x.about(8), 1);
            x.undo();
            Due.is(13, "undone", x.about(2), b[0]);
        }
    }

    @Says(promise = 13, value = "NONE, doing nothing, if there is 99, or for another number.")
    private static void pourRefused() {
        GravyRound x = Due.dine(Edges.guests(1) + "boat 50;");
        String before = Edges.all(x);
        for (int much : Edges.beyond(1, 20)) {
            Due.is(13, "pour(" + much + ")", x.pour(much), -1);
        }
        Edges.same(13, "pour()", x, before);
        GravyRound full = Due.dine(Edges.guests(1) + "boat 99;");
        before = Edges.all(full);
        for (int much = 0; much <= 21; much++) {
            Due.is(13, "pour(" + much + ") of 99", full.pour(much), -1);
        }
        Edges.same(13, "pour() of 99", full, before);
        full.minute();
        Due.is(13, "pour(1) of 98", full.pour(1), 99);
    }

    @Says(promise = 14, value = "It is warmed (1 .. 50; 99 at most): HEAT")
    private static void warmed() {
        int[][] heatWarmThen = {{0, 1, 1}, {0, 50, 50}, {49, 50, 99}, {50, 50, 99}, {98, 1, 99}, {98, 2, 99}, {98, 50, 99}, {97, 1, 98}};
        for (int[] h : heatWarmThen) {
            GravyRound x = Due.dine("heat " + h[0] + ";");
            Due.is(14, "warm(" + h[1] + "), heat " + h[0], x.warm(h[1]), h[2]);
            Due.is(14, "about(3)", x.about(3), h[2]);
            Due.is(14, "an act", x.about(8), 1);
            x.undo();
            Due.is(14, "undone", x.about(3), h[0]);
        }
    }

    @Says(promise = 14, value = "NONE, doing nothing, if it is 99, or for another number.")
    private static void warmRefused() {
        GravyRound x = Due.dine(Edges.guests(1) + "heat 30;");
        String before = Edges.all(x);
        for (int much : Edges.beyond(1, 50)) {
            Due.is(14, "warm(" + much + ")", x.warm(much), -1);
        }
        Edges.same(14, "warm()", x, before);
        GravyRound hot = Due.dine(Edges.guests(1) + "heat 99;cools 1;");
        before = Edges.all(hot);
        for (int much = 0; much <= 51; much++) {
            Due.is(14, "warm(" + much + ") of 99", hot.warm(much), -1);
        }
        Edges.same(14, "warm() of 99", hot, before);
        hot.minute();
        Due.is(14, "warm(50) of 98", hot.warm(50), 99);
    }

    @Says(promise = 15, value = "true; false if there is none.")
    private static void undoOfNone() {
        GravyRound x = Due.dine(THREE);
        String before = Edges.all(x);
        Due.is(15, "undo() of none", x.undo(), false);
        Edges.same(15, "undo()", x, before);
        x.minute();
        Due.is(15, "undo() of one", x.undo(), true);
        Due.is(15, "undo() of none", x.undo(), false);
        Due.is(15, "it can still be redone", x.redo(), true);
        x.image(0);
        x.back(0);
        Due.is(15, "undo() behind back()", x.undo(), false);
        Due.is(15, "undo() of a new object", new GravyRound().undo(), false);
    }

    @Says(promise = 16, value = "true; false if there is none.")
    private static void redoOfNone() {
        GravyRound x = Due.dine(THREE);
        Due.is(16, "redo() of none", x.redo(), false);
        x.minute();
        String before = Edges.all(x);
        Due.is(16, "redo() of what was not undone", x.redo(), false);
        Edges.same(16, "redo()", x, before);
        x.undo();
        Due.is(16, "redo() of one", x.redo(), true);
        Due.is(16, "redo() of no more", x.redo(), false);
        Edges.same(16, "undo() and redo()", x, before);
        x.undo();
        x.image(0);
        x.back(0);
        Due.is(16, "redo() behind back()", x.redo(), false);
        Due.is(16, "redo() of a new object", new GravyRound().redo(), false);
    }

    @Says(promise = 17, value = "ROUND (0: it is OVER).")
    private static void roundEdges() {
        Due.is(17, "round() without guests", new GravyRound().round(), 0);
        Due.is(17, "round() of the quickest", Due.dine(Edges.guests(1)).round(), 1);
        GravyRound x = Due.dine(SLOWEST);
        for (int m = 117; m > 0; m--) {
            Due.is(17, "round()", x.round(), m);
            x.minute();
        }
        Due.is(17, "round() when over", x.round(), 0);
    }

    @Says(promise = 18, value = {"At which SEAT it stands behind n MINUTES (0 .. 200)", "NONE if it is OVER then, or for another n."})
    private static void standsEdges() {
        GravyRound x = Due.dine(SLOWEST);
        Due.is(18, "stands(0)", x.stands(0), 0);
        Due.is(18, "stands(8)", x.stands(8), 0);
        for (int seat = 1; seat < 7; seat++) {
            Due.is(18, "first at " + seat, x.stands(9 + 18 * (seat - 1)), seat);
            Due.is(18, "last at " + seat, x.stands(8 + 18 * seat), seat);
        }
        for (int n : new int[] {117, 118, 199, 200}) {
            Due.is(18, "stands(" + n + ")", x.stands(n), -1);
        }
        for (int n : Edges.beyond(0, 200)) {
            Due.is(18, "stands(" + n + ")", x.stands(n), -1);
        }
        x.minute();
        Due.is(18, "stands(7) a minute later", x.stands(7), 0);
        Due.is(18, "stands(8) a minute later", x.stands(8), 1);
        Due.is(18, "stands(0) when over", over(Edges.guests(1)).stands(0), -1);
        Due.is(18, "stands(0) without guests", new GravyRound().stands(0), -1);
    }

    @Says(promise = 19, value = "2: been SERVED behind how many MINUTES (0: he is)")
    private static void servedBehind() {
        GravyRound x = Due.dine(THREE);
        int[] at = {2, 5, 10};
        for (int m = 0; m <= 10; m++) {
            for (int g = 0; g < 3; g++) {
                Due.is(19, "will(" + g + ", 2, 0) behind " + m, x.will(g, 2, 0), Math.max(0, at[g] - m));
                Due.is(19, "will(" + g + ", 2, 1) behind " + m, x.will(g, 2, 1), Math.max(0, at[g] - m));
            }
            x.minute();
        }
        Due.is(19, "the slowest", Due.dine(SLOWEST).will(6, 2, 0), 117);
    }

    @Says(promise = 19, value = "some spilt as the SEED tells (how 1), nothing (0)")
    private static void spiltOrNot() {
        GravyRound x = Due.dine(Edges.takers(1, 1, 9) + "boat 5;leans 100;heat 50;cools left;");
        Due.is(19, "will(2, 0, 0)", x.will(2, 0, 0), 3);
        Due.is(19, "will(2, 0, 1)", x.will(2, 0, 1), 1);
        Due.is(19, "will(2, 1, 0)", x.will(2, 1, 0), 50 - 5 - 4 - 3);
        Due.is(19, "will(2, 1, 1)", x.will(2, 1, 1), 50 - 5 - 3 - 1);
        Due.minutes(x, 3);
        for (int how = 0; how < 2; how++) {
            Due.is(19, "will(2, 0, " + how + ") when over", x.will(2, 0, how), 1);
            Due.is(19, "will(2, 1, " + how + ") when over", x.will(2, 1, how), 41);
        }
    }

    @Says(promise = 19, value = "NONE if one can't be.")
    private static void willRefused() {
        GravyRound x = Due.dine(THREE);
        x.tables();
        String before = Edges.all(x);
        for (int g : Edges.beyond(0, 2)) {
            Due.is(19, "will(" + g + ", 0, 0)", x.will(g, 0, 0), -1);
            Due.is(19, "will(" + g + ", 2, 1)", x.will(g, 2, 1), -1);
        }
        for (int what : Edges.beyond(0, 2)) {
            Due.is(19, "will(0, " + what + ", 0)", x.will(0, what, 0), -1);
        }
        for (int how : Edges.beyond(0, 1)) {
            Due.is(19, "will(0, 0, " + how + ")", x.will(0, 0, how), -1);
        }
        Edges.same(19, "will()", x, before);
        Due.is(19, "will(0, 0, 0) of nobody", new GravyRound().will(0, 0, 0), -1);
    }
}
