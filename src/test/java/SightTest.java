/** Promises 41 to 49: what was seen, as known at a time, the next minute to look, images, and the rest. */
final class SightTest {
    /** Behind the first one, who is slow by s: two minutes at seat 1, four at seat 2, then it is over. */
    private static final String THREE =
        "guest a takes 1 slow 5;guest b takes 1 slow 2;guest c takes 1 slow 1;feud c b;boat 9;heat 50;";

    public static void main(String[] args) {
        seeing();
        times();
        thirty();
        later();
        asking();
        images();
        abouts();
        Due.end();
    }

    private static void seeing() {
        GravyRound x = Due.dine(THREE);
        Due.is(44, "fits(0)", x.fits(0), 20);
        Due.is(45, "sure(0, 0)", x.sure(0, 0), 1);
        Due.is(45, "sure(1, 0)", x.sure(1, 0), 20);
        Due.is(41, "seen(41, 0, true)", x.seen(41, 0, true), -1);
        Due.is(41, "seen(-1, 0, true)", x.seen(-1, 0, true), -1);
        Due.is(41, "seen(0, 3, true)", x.seen(0, 3, true), -1);
        Due.is(41, "seen(0, -1, true)", x.seen(0, -1, true), -1);
        Due.is(49, "about(10)", x.about(10), 0);
        Due.is(41, "seen(10, 2, false)", x.seen(10, 2, false), 0);
        Due.is(44, "fits(0)", x.fits(0), 16);
        Due.is(41, "seen(9, 0, false)", x.seen(9, 0, false), 1);
        Due.is(44, "fits(0): 1 to 4, 9", x.fits(0), 5);
        Due.is(45, "sure(0, 0)", x.sure(0, 0), 1);
        Due.is(45, "sure(1, 0)", x.sure(1, 0), 9);
        Due.is(45, "sure(2, 0)", x.sure(2, 0), -1);
        Due.is(45, "sure(-1, 0)", x.sure(-1, 0), -1);
        Due.is(41, "seen(10, 1, true)", x.seen(10, 1, true), 2);
        Due.is(44, "fits(0): 9", x.fits(0), 1);
        Due.is(45, "sure(0, 0)", x.sure(0, 0), 9);
        Due.is(41, "seen(40, 2, true)", x.seen(40, 2, true), 3);
        Due.is(44, "fits(0): none", x.fits(0), 0);
        Due.is(45, "sure(0, 0) of none", x.sure(0, 0), -1);
        Due.is(46, "ask(0, 0) of none", x.ask(0, 0), -1);
        Due.is(46, "ask(1, 0) of none", x.ask(1, 0), -1);
        Due.is(49, "about(10)", x.about(10), 4);
        GravyRound y = Due.dine(THREE);
        y.makeUp(0);
        y.change(1, 2);
        Due.minutes(y, 6);
        y.seen(10, 1, true);
        Due.is(44, "of the dinner as it was told", y.fits(0), 2);
        Due.is(45, "of the dinner as it was told", y.sure(0, 0), 9);
        GravyRound z = Due.dine(THREE);
        z.seen(0, 0, false);
        Due.is(44, "it stands at the first seat at first", z.fits(0), 0);
        Due.is(41, "no guests", new GravyRound().seen(0, 0, false), -1);
        Due.is(44, "no guests", new GravyRound().fits(0), 0);
    }

    private static void times() {
        GravyRound x = Due.dine(THREE);
        x.later(10);
        Due.is(41, "seen at 10", x.seen(10, 1, true), 0);
        Due.is(44, "fits(9)", x.fits(9), 20);
        Due.is(44, "fits(10)", x.fits(10), 2);
        Due.is(44, "fits(-1)", x.fits(-1), 20);
        Due.is(44, "fits of the greatest", x.fits(Integer.MAX_VALUE), 2);
        Due.is(44, "fits of the least", x.fits(Integer.MIN_VALUE), 20);
        x.later(5);
        Due.is(42, "untell(0)", x.untell(0), true);
        Due.is(42, "untell(0) again", x.untell(0), false);
        Due.is(42, "untell(1)", x.untell(1), false);
        Due.is(42, "untell(-1)", x.untell(-1), false);
        Due.is(44, "fits(14)", x.fits(14), 2);
        Due.is(44, "fits(15)", x.fits(15), 20);
        Due.is(44, "fits(1000)", x.fits(1000), 20);
        Due.is(45, "sure(1, 14)", x.sure(1, 14), 10);
        Due.is(45, "sure(1, 15)", x.sure(1, 15), 20);
        Due.is(46, "ask(0, 14)", x.ask(0, 14), 9);
        Due.is(46, "ask(0, 15)", x.ask(0, 15), 13);
        x.seen(3, 0, false);
        x.untell(1);
        Due.is(44, "told and untold at one time", x.fits(15), 20);
        Due.is(49, "about(10): both are told of", x.about(10), 2);
        Due.put(x, THREE);
        x.dinner();
        Due.is(4, "nothing is seen of a new dinner", x.about(10), 0);
        Due.is(4, "the time stays", x.about(11), 15);
        Due.is(44, "fits(12)", x.fits(12), 20);
        Due.is(42, "untell(0)", x.untell(0), false);
        Due.is(41, "numbered from 0 again", x.seen(3, 0, false), 0);
    }

    private static void thirty() {
        GravyRound x = Due.dine(THREE);
        for (int i = 0; i < 30; i++) {
            Due.is(41, "seen number " + i, x.seen(0, 0, true), i);
        }
        Due.is(41, "seen of 30", x.seen(0, 0, true), -1);
        x.untell(29);
        Due.is(41, "seen of 30, one untold", x.seen(0, 0, true), -1);
        Due.is(49, "about(10)", x.about(10), 30);
    }

    private static void later() {
        GravyRound x = new GravyRound();
        Due.is(43, "later(0)", x.later(0), 0);
        Due.is(43, "later(1001)", x.later(1001), -1);
        Due.is(43, "later(-1)", x.later(-1), -1);
        Due.is(43, "later(1)", x.later(1), 1);
        for (int i = 0; i < 99; i++) {
            x.later(1000);
        }
        Due.is(43, "later(1000) beyond 100,000", x.later(1000), -1);
        Due.is(49, "about(11)", x.about(11), 99001);
        Due.is(43, "later(999)", x.later(999), 100000);
        Due.is(43, "later(1) beyond 100,000", x.later(1), -1);
        Due.is(43, "later(0)", x.later(0), 100000);
    }

    private static void asking() {
        GravyRound x = Due.dine(THREE);
        // behind m: 20 - m at seat 0, 2 at seat 1, 4 at seat 2, m - 6 over
        Due.is(46, "ask(0, 0)", x.ask(0, 0), 13);
        Due.is(46, "ask(1, 0)", x.ask(1, 0), 7);
        Due.is(46, "ask(2, 0)", x.ask(2, 0), -1);
        Due.is(46, "ask(-1, 0)", x.ask(-1, 0), -1);
        x.seen(10, 1, true);
        Due.is(46, "ask(0, 0) of 9 and 10", x.ask(0, 0), 9);
        Due.is(46, "ask(1, 0) of 9 and 10", x.ask(1, 0), 1);
        x.seen(9, 1, true);
        Due.is(46, "ask(0, 0) of 9", x.ask(0, 0), 0);
        Due.is(46, "ask(1, 0) of 9", x.ask(1, 0), 1);
        GravyRound one = Due.dine("guest a takes 1 slow 1;");
        Due.is(46, "ask(0, 0) of one guest", one.ask(0, 0), 10);
        Due.is(46, "ask(1, 0) of one guest", one.ask(1, 0), 10);
    }

    private static void images() {
        GravyRound x = Due.dine(THREE + "leans 100;draw 3;");
        Due.is(47, "image(3)", x.image(3), -1);
        Due.is(47, "image(-1)", x.image(-1), -1);
        Due.is(48, "back(0) of nothing", x.back(0), -1);
        Due.is(48, "back(3)", x.back(3), -1);
        Due.is(48, "back(-1)", x.back(-1), -1);
        x.change(1, 2);
        Due.minutes(x, 5);
        x.makeUp(0);
        Due.is(47, "image(2)", x.image(2), 5);
        Due.is(47, "it is no act", x.about(8), 7);
        int[] kept = new int[8];
        for (int i = 2; i < 8; i++) {
            kept[i] = x.about(i);
        }
        x.change(0, 1);
        x.fallOut(0);
        x.pour(7);
        x.warm(9);
        Due.minutes(x, 3);
        Due.is(47, "image(0)", x.image(0), 8);
        x.undo();
        Due.is(48, "back(1) of nothing", x.back(1), -1);
        Due.is(48, "does nothing", x.about(6), 7);
        Due.is(48, "back(2)", x.back(2), 5);
        for (int i = 2; i < 8; i++) {
            Due.is(48, "about(" + i + ")", x.about(i), kept[i]);
        }
        Due.is(48, "no acts are kept", x.about(8), 0);
        Due.is(48, "none undone either", x.about(9), 0);
        Due.is(48, "undo()", x.undo(), false);
        Due.is(48, "redo()", x.redo(), false);
        Due.is(48, "who got it", x.guest(0, 3), 1);
        Due.is(48, "who is served", x.guest(2, 5), 0);
        Due.is(48, "who got nothing", x.guest(2, 3), 0);
        Due.is(48, "who is not warm", x.guest(2, 4), 0);
        Due.is(48, "the feud is ended", x.feud(0, 2), 1);
        Due.is(48, "seats", x.seat(1), 2);
        x.minute();
        Due.is(15, "undo() of what came behind", x.undo(), true);
        Due.is(48, "undo() of no more", x.undo(), false);
        Due.is(48, "back(0)", x.back(0), 8);
        Due.is(48, "back(2) once more", x.back(2), 5);
        GravyRound y = Due.dine(THREE);
        y.seen(0, 0, true);
        y.tables();
        y.later(3);
        y.image(1);
        y.later(4);
        y.seen(1, 1, true);
        y.soonest();
        y.back(1);
        Due.is(48, "what is seen stays", y.about(10), 2);
        Due.is(48, "the time stays", y.about(11), 7);
        Due.is(48, "what lies there stays", y.about(14), 2);
    }

    private static void abouts() {
        GravyRound x = Due.dine("guest a takes 1 slow 5;guest b takes 1 slow 2;feud a b;boat 8;heat 77;across 6;leans 45;"
            + "draw 321;cools (1 + heat) / 9;");
        int[] want = {2, 1, 8, 77, 0, 5, 0, 321, 0, 0, 0, 0, 0, 4, 0, 6, 45};
        for (int i = 0; i < want.length; i++) {
            Due.is(49, "about(" + i + ")", x.about(i), want[i]);
        }
        Due.is(49, "about(17)", x.about(17), -2);
        Due.is(49, "about(-1)", x.about(-1), -2);
        Due.is(49, "about of the least", x.about(Integer.MIN_VALUE), -2);
        Due.put(x, "boat");
        Due.is(49, "about(12)", x.about(12), 4);
    }
}
