/** Promises 6 to 19: guests, seats, feuds, the acts, undone and done again, and what will be. */
final class MealTest {
    /** The waits are 2, 1 + 2 and 3 + 2; five of heat go in each minute. */
    private static final String THREE = "guest a takes 3 slow 2;guest b takes 4 slow 1;guest c takes 5 slow 3;"
        + "feud b a;feud c b;boat 10;heat 80;across 2;draw 0;cools 5;";

    public static void main(String[] args) {
        guestsSeatsFeuds();
        minutes();
        spilling();
        waits();
        changes();
        feuds();
        pouring();
        warming();
        undoing();
        fortyActs();
        standing();
        willHave();
        Due.end();
    }

    private static void guestsSeatsFeuds() {
        GravyRound x = Due.dine(THREE);
        int[][] want = {{0, 3, 2, 0, 0, 0, 2}, {1, 4, 1, 0, 0, 0, 5}, {2, 5, 3, 0, 0, 0, 2}};
        for (int g = 0; g < 3; g++) {
            for (int what = 0; what < 7; what++) {
                Due.is(6, "guest(" + g + ", " + what + ")", x.guest(g, what), want[g][what]);
            }
            Due.is(6, "guest(" + g + ", 7)", x.guest(g, 7), -1);
            Due.is(6, "guest(" + g + ", -1)", x.guest(g, -1), -1);
            Due.is(7, "seat(" + g + ")", x.seat(g), g);
        }
        Due.is(6, "guest(3, 0)", x.guest(3, 0), -1);
        Due.is(6, "guest(-1, 0)", x.guest(-1, 0), -1);
        Due.is(7, "seat(3)", x.seat(3), -1);
        Due.is(7, "seat(-1)", x.seat(-1), -1);
        int[][] pairs = {{1, 0, 0}, {2, 1, 0}};
        for (int f = 0; f < 2; f++) {
            for (int what = 0; what < 3; what++) {
                Due.is(8, "feud(" + f + ", " + what + ")", x.feud(f, what), pairs[f][what]);
            }
            Due.is(8, "feud(" + f + ", 3)", x.feud(f, 3), -1);
            Due.is(8, "feud(" + f + ", -1)", x.feud(f, -1), -1);
        }
        Due.is(8, "feud(2, 0)", x.feud(2, 0), -1);
        Due.is(8, "feud(-1, 0)", x.feud(-1, 0), -1);
    }

    private static void minutes() {
        GravyRound x = Due.dine(THREE);
        int[] served = {-1, 0, -1, -1, 1, -1, -1, -1, -1, 2};
        int[] seat = {0, 1, 1, 1, 2, 2, 2, 2, 2, -1};
        int[] wait = {1, 3, 2, 1, 5, 4, 3, 2, 1, 0};
        int[] boat = {10, 7, 7, 7, 3, 3, 3, 3, 3, 0};
        int[] seed = {0, 71, 71, 71, 798, 798, 798, 798, 798, 397};
        for (int m = 0; m < 10; m++) {
            String at = " in minute " + m;
            Due.is(17, "round()" + at, x.round(), 10 - m);
            Due.is(9, "minute()" + at, x.minute(), served[m]);
            Due.is(49, "about(2)" + at, x.about(2), boat[m]);
            Due.is(49, "about(3)" + at, x.about(3), 75 - 5 * m);
            Due.is(49, "about(4)" + at, x.about(4), seat[m]);
            Due.is(49, "about(5)" + at, x.about(5), wait[m]);
            Due.is(49, "about(6)" + at, x.about(6), m + 1);
            Due.is(49, "about(7)" + at, x.about(7), seed[m]);
            Due.is(49, "about(8)" + at, x.about(8), m + 1);
        }
        Due.is(9, "minute() when over", x.minute(), -2);
        Due.is(9, "does nothing", x.about(6), 10);
        Due.is(9, "is no act", x.about(8), 10);
        Due.is(17, "round() when over", x.round(), 0);
        int[][] end = {{3, 70, 1}, {4, 55, 1}, {3, 30, 1}};
        for (int g = 0; g < 3; g++) {
            for (int what = 0; what < 3; what++) {
                Due.is(6, "guest(" + g + ", " + (3 + what) + ") at the end", x.guest(g, 3 + what), end[g][what]);
            }
        }
        GravyRound y = Due.dine("guest a takes 1 slow 3;heat 99;boat 5;");
        int[] heat = {94, 89, 84};
        for (int m = 0; m < 3; m++) {
            y.minute();
            Due.is(9, "heat by 1 + heat / 20", y.about(3), heat[m]);
        }
        int[][] edges = {{19, 18}, {20, 18}, {39, 37}, {40, 37}, {60, 56}, {80, 75}, {1, 0}, {0, 0}};
        for (int[] edge : edges) {
            GravyRound one = Due.dine("guest a takes 1 slow 9;heat " + edge[0] + ";");
            one.minute();
            Due.is(9, "heat of " + edge[0] + " a minute later", one.about(3), edge[1]);
        }
        GravyRound z = Due.dine("guest a takes 1 slow 2;heat 3;cools 2;");
        Due.minutes(z, 2);
        Due.is(9, "heat 0 at least", z.about(3), 0);
        GravyRound w = Due.dine("guest a takes 1 slow 9;guest b takes 1 slow 1;heat 99;cools minute;");
        Due.minutes(w, 4);
        Due.is(9, "the minute in cools", w.about(3), 99 - 0 - 1 - 2 - 3);
    }

    private static void spilling() {
        String two = "guest a takes 2 slow 1;guest b takes 2 slow 1;guest c takes 9 slow 1;boat 9;";
        // the seed goes 0, 71, 798, 397
        int[][] leansAndBoats = {{100, 6, 3, 0}, {72, 6, 4, 0}, {71, 7, 5, 0}, {98, 6, 4, 0}, {99, 6, 3, 0}};
        for (int[] want : leansAndBoats) {
            GravyRound x = Due.dine(two + "leans " + want[0] + ";");
            Due.is(49, "about(16)", x.about(16), want[0]);
            Due.is(19, "will(2, 0, 1)", x.will(2, 0, 1), want[2]);
            Due.is(19, "will(2, 0, 0)", x.will(2, 0, 0), 5);
            for (int i = 1; i < 4; i++) {
                x.minute();
                Due.is(9, "boat, leans " + want[0] + ", served " + i, x.about(2), want[i]);
            }
            Due.is(19, "will(2, 0, 0) when he has it", x.will(2, 0, 0), want[2]);
        }
        GravyRound drop = Due.dine("guest a takes 2 slow 1;boat 3;leans 100;");
        drop.minute();
        Due.is(9, "the last drop is spilt", drop.about(2), 0);
        GravyRound slow = Due.dine("guest a takes 2 slow 3;boat 9;leans 100;draw 5;");
        slow.minute();
        Due.is(9, "nothing is spilt where nobody is served", slow.about(2), 9);
        Due.is(9, "the seed stays", slow.about(7), 5);
    }

    private static void waits() {
        GravyRound x = Due.dine("guest a takes 1 slow 1;guest b takes 1 slow 1;guest c takes 1 slow 1;feud a c;feud b c;");
        Due.is(17, "across is 3, if not told", x.round(), 1 + 1 + 4);
        Due.is(49, "seat 0 has no one ahead", x.about(5), 1);
        Due.minutes(x, 2);
        Due.is(49, "the wait with a feud", x.about(5), 4);
    }

    private static void changes() {
        GravyRound x = Due.dine(THREE);
        Due.is(10, "change(0, 1)", x.change(0, 1), -1);
        Due.is(10, "change(1, 0)", x.change(1, 0), -1);
        Due.is(10, "change(1, 1)", x.change(1, 1), -1);
        Due.is(10, "change(1, 3)", x.change(1, 3), -1);
        Due.is(10, "change(-1, 1)", x.change(-1, 1), -1);
        Due.is(10, "no act", x.about(8), 0);
        Due.is(10, "change(1, 2)", x.change(1, 2), 2 + 3 + 3);
        Due.is(10, "an act", x.about(8), 1);
        Due.is(7, "seat(1)", x.seat(1), 2);
        Due.is(7, "seat(2)", x.seat(2), 1);
        Due.is(6, "guest(1, 0)", x.guest(1, 0), 2);
        Due.minutes(x, 2);
        Due.is(10, "one where it stands is not behind", x.change(2, 1), -1);
        Due.is(9, "who sits there is served", x.will(2, 2, 0), 3);
        Due.minutes(x, 6);
        Due.is(10, "nobody is behind when it is over", x.change(1, 2), -1);
    }

    private static void feuds() {
        GravyRound x = Due.dine(THREE);
        Due.is(12, "fallOut(0) that is not ended", x.fallOut(0), -1);
        Due.is(11, "makeUp(2)", x.makeUp(2), -1);
        Due.is(11, "makeUp(-1)", x.makeUp(-1), -1);
        Due.is(12, "fallOut(2)", x.fallOut(2), -1);
        Due.is(12, "fallOut(-1)", x.fallOut(-1), -1);
        Due.is(11, "no act", x.about(8), 0);
        Due.is(11, "makeUp(0)", x.makeUp(0), 8);
        Due.is(8, "feud(0, 2)", x.feud(0, 2), 1);
        Due.is(6, "guest(1, 6)", x.guest(1, 6), 4);
        Due.is(11, "makeUp(0) again", x.makeUp(0), -1);
        Due.is(11, "an act", x.about(8), 1);
        Due.is(11, "makeUp(1)", x.makeUp(1), 6);
        Due.is(12, "fallOut(0)", x.fallOut(0), 8);
        Due.is(12, "fallOut(0) again", x.fallOut(0), -1);
        Due.is(12, "fallOut(1)", x.fallOut(1), 10);
        Due.is(12, "acts", x.about(8), 4);
        Due.minutes(x, 3);
        Due.is(11, "the wait at hand stays", x.makeUp(0), 2 + 5);
        Due.is(49, "about(5)", x.about(5), 2);
        x.minute();
        x.makeUp(1);
        x.minute();
        Due.is(49, "the wait by what is so then", x.about(5), 3);
        Due.minutes(x, 3);
        Due.is(12, "fallOut(1) when over", x.fallOut(1), 0);
        Due.is(11, "makeUp(1) when over", x.makeUp(1), 0);
    }

    private static void pouring() {
        GravyRound x = Due.dine(THREE);
        Due.is(13, "pour(0)", x.pour(0), -1);
        Due.is(13, "pour(21)", x.pour(21), -1);
        Due.is(13, "pour(-1)", x.pour(-1), -1);
        Due.is(13, "no act", x.about(8), 0);
        Due.is(13, "pour(1)", x.pour(1), 11);
        Due.is(13, "pour(20)", x.pour(20), 31);
        Due.is(13, "acts", x.about(8), 2);
        x.pour(20);
        x.pour(20);
        x.pour(20);
        Due.is(13, "99 at most", x.pour(20), 99);
        Due.is(13, "there is 99", x.pour(1), -1);
        Due.is(13, "no act then", x.about(8), 6);
        Due.minutes(x, 10);
        Due.is(13, "what is taken goes", x.about(2), 99 - 12);
        Due.is(13, "pour when over", x.pour(3), 90);
    }

    private static void warming() {
        GravyRound x = Due.dine("guest a takes 1 slow 1;heat 20;");
        Due.is(14, "warm(0)", x.warm(0), -1);
        Due.is(14, "warm(51)", x.warm(51), -1);
        Due.is(14, "warm(-1)", x.warm(-1), -1);
        Due.is(14, "no act", x.about(8), 0);
        Due.is(14, "warm(1)", x.warm(1), 21);
        Due.is(14, "warm(50)", x.warm(50), 71);
        Due.is(14, "99 at most", x.warm(29), 99);
        Due.is(14, "it is 99", x.warm(1), -1);
        Due.is(14, "acts", x.about(8), 3);
        Due.is(14, "heat", x.about(3), 99);
    }

    private static void undoing() {
        GravyRound x = Due.dine(THREE + "leans 100;");
        Due.is(15, "undo() of nothing", x.undo(), false);
        Due.is(16, "redo() of nothing", x.redo(), false);
        x.change(1, 2);
        x.makeUp(1);
        x.pour(5);
        x.warm(7);
        Due.minutes(x, 2);
        Due.is(49, "about(8)", x.about(8), 6);
        Due.is(15, "undo()", x.undo(), true);
        Due.is(15, "who was served is not", x.guest(0, 5), 0);
        Due.is(15, "he got nothing", x.guest(0, 3), 0);
        Due.is(15, "not warm", x.guest(0, 4), 0);
        Due.is(15, "the boat", x.about(2), 15);
        Due.is(15, "the heat", x.about(3), 82);
        Due.is(15, "the seat", x.about(4), 0);
        Due.is(15, "the wait", x.about(5), 1);
        Due.is(15, "the minute", x.about(6), 1);
        Due.is(15, "the seed", x.about(7), 0);
        Due.is(49, "about(8)", x.about(8), 5);
        Due.is(49, "about(9)", x.about(9), 1);
        x.undo();
        x.undo();
        Due.is(15, "heat before it was warmed", x.about(3), 80);
        x.undo();
        Due.is(15, "boat before gravy was poured in", x.about(2), 10);
        x.undo();
        Due.is(15, "the feud is not ended", x.feud(1, 2), 0);
        x.undo();
        Due.is(15, "seats as they were", x.seat(1), 1);
        Due.is(15, "undo() of no more", x.undo(), false);
        Due.is(49, "about(9)", x.about(9), 6);
        for (int i = 0; i < 6; i++) {
            Due.is(16, "redo()", x.redo(), true);
        }
        Due.is(16, "redo() of no more", x.redo(), false);
        Due.is(16, "the seed", x.about(7), 71);
        Due.is(16, "he got it", x.guest(0, 3), 3);
        Due.is(16, "the boat, one spilt", x.about(2), 11);
        Due.is(16, "seats", x.seat(1), 2);
        x.undo();
        x.undo();
        x.pour(20);
        Due.is(16, "redo() behind another act", x.redo(), false);
        Due.is(49, "about(9)", x.about(9), 0);
        Due.is(49, "about(8)", x.about(8), 5);
        x.undo();
        x.pour(0);
        Due.is(16, "redo() behind what was no act", x.redo(), true);
        Due.is(16, "the boat", x.about(2), 35);
    }

    private static void fortyActs() {
        GravyRound x = Due.dine(THREE);
        for (int i = 0; i < 43; i++) {
            if (i % 2 == 0) {
                x.makeUp(0);
            } else {
                x.fallOut(0);
            }
            Due.is(49, "acts kept", x.about(8), Math.min(40, i + 1));
        }
        for (int i = 0; i < 40; i++) {
            Due.is(15, "undo() number " + i, x.undo(), true);
        }
        Due.is(15, "the oldest are gone", x.undo(), false);
        Due.is(15, "three were done and stay", x.feud(0, 2), 1);
        Due.is(49, "about(9)", x.about(9), 40);
        for (int i = 0; i < 40; i++) {
            Due.is(16, "redo() number " + i, x.redo(), true);
        }
        Due.is(16, "no more", x.redo(), false);
        Due.is(16, "as it was", x.feud(0, 2), 1);
        x.pour(1);
        Due.is(49, "still forty", x.about(8), 40);
        x.undo();
        Due.is(15, "the latest", x.about(2), 10);
        Due.is(15, "the latest", x.feud(0, 2), 1);
        x.undo();
        Due.is(15, "the one ahead of it", x.feud(0, 2), 0);
    }

    private static void standing() {
        GravyRound x = Due.dine(THREE);
        int[] at = {0, 0, 1, 1, 1, 2, 2, 2, 2, 2, -1, -1};
        for (int n = 0; n < at.length; n++) {
            Due.is(18, "stands(" + n + ")", x.stands(n), at[n]);
        }
        Due.is(18, "stands(200)", x.stands(200), -1);
        Due.is(18, "stands(201)", x.stands(201), -1);
        Due.is(18, "stands(-1)", x.stands(-1), -1);
        x.minute();
        Due.is(18, "stands(1) a minute later", x.stands(1), 1);
        Due.is(18, "stands(8) a minute later", x.stands(8), 2);
        Due.is(18, "nothing is done", x.about(6), 1);
    }

    private static void willHave() {
        GravyRound x = Due.dine(THREE + "leans 72;");
        int[][] dry = {{3, 70, 2}, {4, 55, 5}, {3, 30, 10}};
        int[][] spilt = {{3, 70, 2}, {4, 55, 5}, {2, 30, 10}};
        for (int g = 0; g < 3; g++) {
            for (int what = 0; what < 3; what++) {
                Due.is(19, "will(" + g + ", " + what + ", 0)", x.will(g, what, 0), dry[g][what]);
                Due.is(19, "will(" + g + ", " + what + ", 1)", x.will(g, what, 1), spilt[g][what]);
            }
        }
        Due.is(19, "will(3, 0, 0)", x.will(3, 0, 0), -1);
        Due.is(19, "will(-1, 0, 0)", x.will(-1, 0, 0), -1);
        Due.is(19, "will(0, 3, 0)", x.will(0, 3, 0), -1);
        Due.is(19, "will(0, -1, 0)", x.will(0, -1, 0), -1);
        Due.is(19, "will(0, 0, 2)", x.will(0, 0, 2), -1);
        Due.is(19, "will(0, 0, -1)", x.will(0, 0, -1), -1);
        Due.minutes(x, 3);
        x.pour(20);
        Due.is(19, "will(0, 0, 0) of one served", x.will(0, 0, 0), 3);
        Due.is(19, "will(0, 1, 0) of one served", x.will(0, 1, 0), 70);
        Due.is(19, "will(0, 2, 0) of one served", x.will(0, 2, 0), 0);
        Due.is(19, "will(1, 2, 0)", x.will(1, 2, 0), 2);
        Due.is(19, "will(2, 2, 0)", x.will(2, 2, 0), 7);
        // what is spilt can make it cool otherwise
        GravyRound y = Due.dine("guest a takes 1 slow 1;guest b takes 1 slow 1;boat 9;heat 50;leans 100;cools left;");
        Due.is(19, "will(1, 1, 0)", y.will(1, 1, 0), 50 - 9 - 8);
        Due.is(19, "will(1, 1, 1)", y.will(1, 1, 1), 50 - 9 - 7);
    }
}
