/** Promises 20 to 40: what would be better, who is to blame, who speaks with whom, and the odds. */
final class AdviceTest {
    private static final String THREE = "guest a takes 3 slow 2;guest b takes 4 slow 1;guest c takes 5 slow 3;"
        + "feud b a;feud c b;boat 10;heat 80;across 2;draw 0;cools 5;";
    private static final String GREEDY = "guest a takes 9 slow 1;guest b takes 9 slow 1;guest c takes 3 slow 1;boat 10;";

    public static void main(String[] args) {
        soonest();
        warmest();
        peace();
        treaty();
        leave();
        tables();
        limit();
        best();
        skin();
        greed();
        clans();
        blame();
        sourestAndLuckiest();
        lacking();
        slowestAndLaw();
        odds();
        Due.end();
    }

    /** Guests a, b, .. each so slow, taking nothing. */
    private static String guests(int... slow) {
        StringBuilder b = new StringBuilder();
        for (int i = 0; i < slow.length; i++) {
            b.append("guest ").append((char) ('a' + i)).append(" takes 0 slow ").append(slow[i]).append(";");
        }
        return b.toString();
    }

    private static void soonest() {
        GravyRound x = Due.dine(THREE);
        Due.is(20, "soonest()", x.soonest(), 8);
        Due.lies(20, "soonest()", x, 2, 1);
        Due.is(20, "nothing is done", x.seat(1), 1);
        x.change(1, 2);
        Due.is(20, "soonest() of the best", x.soonest(), 8);
        Due.minutes(x, 6);
        Due.is(20, "soonest() with nobody behind", x.soonest(), 2);
        Due.lies(20, "soonest() with nobody behind", x);
        Due.minutes(x, 2);
        x.tables();
        Due.is(20, "soonest() when over", x.soonest(), 0);
        Due.lies(20, "soonest() when over", x);
        GravyRound y = Due.dine(guests(1, 2, 3, 4) + "feud b c;feud a d;across 0;");
        y.change(1, 3);
        Due.is(20, "soonest() of like ones", y.soonest(), 10);
        Due.lies(20, "soonest() of like ones", y, 1, 2, 3);
        GravyRound z = Due.dine(guests(1, 1, 1, 1, 1, 1, 1) + "feud a b;feud b c;feud c d;");
        Due.is(20, "soonest() of seven", z.soonest(), 7);
        Due.lies(20, "soonest() of seven", z, 2, 4, 1, 3, 5, 6);
    }

    private static void warmest() {
        GravyRound x = Due.dine(THREE);
        Due.is(21, "warmest()", x.warmest(), 40);
        Due.lies(21, "warmest()", x, 2, 1);
        Due.minutes(x, 5);
        Due.is(21, "warmest() with nobody behind", x.warmest(), 30);
        Due.lies(21, "warmest() with nobody behind", x);
        Due.minutes(x, 5);
        x.warm(3);
        x.tables();
        Due.is(21, "warmest() when over", x.warmest(), 33);
        Due.lies(21, "warmest() when over", x);
        GravyRound y = Due.dine(guests(1, 2, 3) + "heat 50;cools seat;");
        Due.is(21, "warmest() by the seat", y.warmest(), 50 - 3 - 4);
        Due.lies(21, "warmest() by the seat", y, 2, 1);
        GravyRound like = Due.dine(guests(1, 2, 3, 4) + "heat 50;cools 60;");
        like.change(1, 3);
        Due.is(21, "warmest() of like ones", like.warmest(), 0);
        Due.lies(21, "warmest() of like ones", like, 1, 2, 3);
        // it cools by the seat in the minutes 0 to 3 alone
        GravyRound early = Due.dine(guests(1, 2, 3) + "heat 50;cools (minute < 4) * seat;");
        Due.is(21, "warmest() by the minute", early.warmest(), 50 - 3);
        Due.lies(21, "warmest() by the minute", early, 2, 1);
        early.minute();
        Due.is(21, "warmest() a minute later, b being where it stands", early.warmest(), 50 - 1 - 1 - 2);
        // who takes much must have it first, if what is left makes it cool
        GravyRound z = Due.dine("guest a takes 0 slow 1;guest b takes 1 slow 1;guest c takes 9 slow 1;guest d takes 2 slow 1;"
            + "boat 12;heat 90;cools left;");
        Due.is(21, "warmest() by what is left", z.warmest(), 90 - 12 - 12 - 3 - 1);
        Due.lies(21, "warmest() by what is left", z, 2, 3, 1);
    }

    private static void peace() {
        GravyRound x = Due.dine(THREE);
        Due.is(22, "peace()", x.peace(), 1);
        Due.minutes(x, 2);
        Due.is(22, "peace() of who sits there and the last one", x.peace(), 1);
        x.makeUp(1);
        Due.is(22, "peace() without that feud", x.peace(), 0);
        Due.minutes(x, 6);
        x.fallOut(1);
        Due.is(22, "peace() when over", x.peace(), 0);
        GravyRound y = Due.dine(guests(1, 1, 1) + "feud a b;feud b c;feud c a;across 0;");
        Due.is(22, "peace() has nothing to do with across", y.peace(), 2);
        y.makeUp(1);
        Due.is(22, "peace()", y.peace(), 1);
    }

    private static void treaty() {
        GravyRound x = Due.dine(THREE);
        int[][] want = {{10, 0, 0}, {9, 1, 1}, {8, 1, 1}, {7, 2, 3}, {6, 2, 3}, {5, -1, -1}, {0, -1, -1}, {200, 0, 0}};
        for (int[] w : want) {
            Due.is(23, "treaty(" + w[0] + ", 0)", x.treaty(w[0], 0), w[1]);
            Due.is(23, "treaty(" + w[0] + ", 1)", x.treaty(w[0], 1), w[2]);
        }
        Due.is(23, "treaty(201, 0)", x.treaty(201, 0), -1);
        Due.is(23, "treaty(-1, 0)", x.treaty(-1, 0), -1);
        Due.is(23, "treaty(10, 2)", x.treaty(10, 2), -1);
        Due.is(23, "treaty(10, -1)", x.treaty(10, -1), -1);
        x.makeUp(0);
        Due.is(23, "treaty(6, 1), one being ended", x.treaty(6, 1), 2);
        x.fallOut(0);
        Due.minutes(x, 2);
        Due.is(23, "treaty(7, 1), the wait at hand stays", x.treaty(7, 1), 2);
        Due.is(23, "treaty(5, 1)", x.treaty(5, 1), -1);
        GravyRound y = Due.dine(guests(1, 1, 1) + "feud a c;feud b c;feud a b;");
        Due.is(23, "treaty(6, 1) leaves who sit apart", y.treaty(6, 1), 2);
        Due.is(23, "treaty(3, 1)", y.treaty(3, 1), 6);
        GravyRound z = Due.dine(guests(1, 1) + "feud a b;across 0;");
        Due.is(23, "treaty(1, 0), across 0", z.treaty(1, 0), -1);
        Due.minutes(z, 2);
        Due.is(23, "treaty(0, 0) when over", z.treaty(0, 0), 0);
    }

    private static void leave() {
        GravyRound x = Due.dine(guests(1, 1, 1) + "feud a b;feud b c;feud c a;");
        Due.is(24, "leave(0)", x.leave(0), 2);
        Due.is(24, "leave(1)", x.leave(1), 3);
        Due.is(24, "leave(2)", x.leave(2), -1);
        Due.is(24, "leave(-1)", x.leave(-1), -1);
        x.makeUp(0);
        Due.is(24, "leave(0), one ended", x.leave(0), 1);
        Due.is(24, "leave(1), one ended", x.leave(1), 4);
        x.makeUp(1);
        x.makeUp(2);
        Due.is(24, "leave(0), all ended", x.leave(0), 0);
        Due.is(24, "leave(1), all ended", x.leave(1), 0);
        GravyRound y = Due.dine(guests(1, 1, 1, 1) + "feud b a;feud d c;");
        Due.is(24, "leave(1) of like ones", y.leave(1), 5);
        Due.minutes(y, 5);
        Due.is(24, "leave(1), whoever is served", y.leave(1), 5);
    }

    private static void tables() {
        GravyRound x = Due.dine(guests(1, 1, 1) + "feud a b;feud b c;feud c a;");
        Due.is(25, "tables()", x.tables(), 3);
        Due.lies(25, "tables()", x, 0, 1, 2);
        x.makeUp(0);
        Due.is(25, "tables(), one ended", x.tables(), 2);
        Due.lies(25, "tables(), one ended", x, 0, 0, 1);
        // who takes the first free table each needs three
        GravyRound y = Due.dine(guests(1, 1, 1, 1) + "feud a c;feud c d;feud d b;");
        Due.is(25, "tables(), not one after the other", y.tables(), 2);
        Due.lies(25, "tables(), not one after the other", y, 0, 1, 1, 0);
        GravyRound z = Due.dine(guests(1, 1));
        Due.is(25, "tables() of those who speak", z.tables(), 1);
        Due.lies(25, "tables() of those who speak", z, 0, 0);
        GravyRound none = new GravyRound();
        Due.is(25, "tables() of nobody", none.tables(), 0);
        Due.lies(25, "tables() of nobody", none);
    }

    private static void limit() {
        GravyRound x = Due.dine(GREEDY);
        Due.is(26, "limit()", x.limit(), 4);
        x.pour(9);
        Due.is(26, "limit() with enough", x.limit(), 20);
        x.undo();
        x.minute();
        Due.is(26, "limit() with 1 left for two", x.limit(), -1);
        x.pour(1);
        Due.is(26, "limit() with 2 left for two", x.limit(), 1);
        x.minute();
        x.pour(1);
        Due.is(26, "limit() for the last one", x.limit(), 20);
        x.minute();
        Due.is(26, "limit() when over", x.limit(), -1);
        GravyRound y = Due.dine("guest a takes 1 slow 1;guest b takes 0 slow 1;boat 9;");
        Due.is(26, "limit() where the last one takes none", y.limit(), -1);
        GravyRound z = Due.dine("guest a takes 2 slow 1;guest b takes 9 slow 1;guest c takes 3 slow 1;boat 10;");
        Due.is(26, "limit() where one takes less", z.limit(), 7);
    }

    private static void best() {
        GravyRound x = Due.dine(THREE);
        Due.is(27, "best(1, 0)", x.best(1, 0), 2);
        Due.is(27, "best(1, 1)", x.best(1, 1), 8);
        Due.is(27, "best(2, 0)", x.best(2, 0), 1);
        Due.is(27, "best(0, 0)", x.best(0, 0), -1);
        Due.is(27, "best(3, 0)", x.best(3, 0), -1);
        Due.is(27, "best(-1, 0)", x.best(-1, 0), -1);
        Due.is(27, "best(1, 2)", x.best(1, 2), -1);
        Due.is(27, "best(1, -1)", x.best(1, -1), -1);
        Due.is(27, "nothing is done", x.seat(1), 1);
        x.change(1, 2);
        Due.is(27, "his own seat", x.best(1, 0), 2);
        Due.is(27, "his own seat, round", x.best(1, 1), 8);
        GravyRound y = Due.dine(guests(1, 1, 1, 1));
        Due.is(27, "of like ones the least", y.best(3, 0), 1);
        y.minute();
        Due.is(27, "of like ones the least behind", y.best(3, 0), 2);
        Due.is(27, "one where it stands", y.best(1, 0), -1);
    }

    private static void skin() {
        GravyRound x = Due.dine(THREE);
        int[][] want = {{81, 0}, {80, 1}, {76, 1}, {75, 2}, {30, 11}, {1, 16}, {0, -1}, {99, 0}, {100, -1}, {-1, -1}};
        for (int[] w : want) {
            Due.is(28, "skin(" + w[0] + ")", x.skin(w[0]), w[1]);
        }
        GravyRound y = Due.dine("guest a takes 1 slow 1;guest b takes 1 slow 1;heat 10;cools seat * 3;");
        Due.is(28, "skin(5), the seat being the last one", y.skin(5), 3);
        Due.is(28, "skin(2), the seat being the last one", y.skin(2), 4);
        Due.minutes(y, 2);
        Due.is(28, "skin(5) when over", y.skin(5), 1);
        GravyRound late = Due.dine("heat 50;cools minute = 199;");
        Due.is(28, "skin(50) behind 200", late.skin(50), 200);
        Due.is(28, "skin(51)", late.skin(51), 0);
        GravyRound later = Due.dine("heat 50;cools minute = 200;");
        Due.is(28, "skin(50) behind more", later.skin(50), -1);
        GravyRound nobody = Due.dine("heat 50;cools seat + guests;");
        Due.is(28, "skin(50) of nobody's, the seat being 0", nobody.skin(50), -1);
        GravyRound spills = Due.dine("guest a takes 0 slow 1;guest b takes 0 slow 9;boat 9;heat 50;leans 100;cools left;");
        Due.is(28, "skin(33): nothing is spilt", spills.skin(33), 2);
        Due.is(28, "skin(32): nothing is spilt", spills.skin(32), 3);
    }

    private static void greed() {
        GravyRound x = Due.dine(GREEDY);
        Due.is(29, "greed(0, 1)", x.greed(0, 1), 2);
        Due.lies(29, "greed(0, 1)", x, 4, 5);
        Due.is(29, "greed(0, 0)", x.greed(0, 0), -1);
        Due.lies(29, "greed(0, 0)", x);
        Due.is(29, "greed(0, 2)", x.greed(0, 2), 6);
        Due.lies(29, "greed(0, 2)", x, 0, 1);
        Due.is(29, "greed(2, 0)", x.greed(2, 0), 6);
        Due.lies(29, "greed(2, 0)", x, 0, 5);
        Due.is(29, "greed(0, 3)", x.greed(0, 3), -1);
        Due.is(29, "greed(-1, 0)", x.greed(-1, 0), -1);
        x.tables();
        x.minute();
        Due.is(29, "greed(0, 1), one being served", x.greed(0, 1), -1);
        Due.lies(29, "greed(0, 1), one being served", x);
        Due.is(29, "greed(1, 0), one being served", x.greed(1, 0), -1);
        x.pour(20);
        Due.is(29, "greed(1, 2)", x.greed(1, 2), 1);
        Due.lies(29, "greed(1, 2)", x, 5, 5);
    }

    private static void clans() {
        GravyRound x = Due.dine(THREE);
        Due.is(30, "clan(0)", x.clan(0), 5);
        Due.is(30, "clan(1)", x.clan(1), 2);
        Due.is(30, "clan(2)", x.clan(2), 5);
        Due.is(30, "clan(3)", x.clan(3), -1);
        Due.is(30, "clan(-1)", x.clan(-1), -1);
        Due.is(31, "clans()", x.clans(), 2);
        x.makeUp(1);
        Due.is(30, "clan(0), friends of friends", x.clan(0), 7);
        Due.is(31, "clans()", x.clans(), 1);
        GravyRound y = Due.dine(guests(1, 1, 1, 1) + "feud a b;feud a c;feud a d;feud b c;feud b d;");
        Due.is(31, "clans() of four", y.clans(), 3);
        Due.is(30, "clan(3)", y.clan(3), 12);
    }

    private static void blame() {
        GravyRound x = Due.dine(guests(1, 1, 1) + "feud a c;feud b c;feud b a;across 5;");
        Due.is(32, "blame(0)", x.blame(0), 0);
        Due.is(32, "blame(1)", x.blame(1), 5);
        Due.is(32, "blame(2)", x.blame(2), 5);
        Due.is(32, "blame(3)", x.blame(3), -1);
        Due.is(32, "blame(-1)", x.blame(-1), -1);
        x.minute();
        Due.is(32, "blame(2), the wait at hand stays", x.blame(2), 0);
        x.makeUp(1);
        Due.is(32, "blame(1) of one ended", x.blame(1), -1);
    }

    private static void sourestAndLuckiest() {
        GravyRound x = Due.dine(THREE);
        Due.is(33, "sourest()", x.sourest(), 1);
        x.makeUp(0);
        Due.is(33, "sourest() of like ones", x.sourest(), 1);
        x.fallOut(0);
        x.makeUp(1);
        Due.is(33, "sourest() of like ones", x.sourest(), 0);
        x.makeUp(0);
        Due.is(33, "sourest() without feuds", x.sourest(), 0);
        Due.is(33, "sourest() of nobody", new GravyRound().sourest(), -1);
        GravyRound y = Due.dine(guests(1, 1, 1) + "heat 10;cools 0;");
        Due.is(34, "luckiest() of nobody served", y.luckiest(), -1);
        y.change(1, 2);
        y.minute();
        Due.is(34, "luckiest()", y.luckiest(), 0);
        y.warm(5);
        y.minute();
        Due.is(34, "luckiest() of two", y.luckiest(), 2);
        y.minute();
        Due.is(34, "luckiest() of like ones", y.luckiest(), 1);
        GravyRound cold = Due.dine(guests(1, 1) + "heat 0;");
        cold.minute();
        Due.is(34, "luckiest(), none being warm", cold.luckiest(), 0);
    }

    private static void lacking() {
        GravyRound x = Due.dine(THREE + "leans 100;");
        Due.is(35, "lacking()", x.lacking(), 2);
        Due.is(36, "hungry()", x.hungry(), 4);
        Due.minutes(x, 2);
        Due.is(35, "lacking(), one spilt", x.lacking(), 3);
        Due.minutes(x, 8);
        Due.is(35, "lacking() when over", x.lacking(), 4);
        x.pour(20);
        Due.is(35, "lacking(): too late", x.lacking(), 4);
        Due.is(36, "hungry() when over", x.hungry(), 4);
        Due.is(36, "hungry(), asked for first", Due.dine("guest a takes 3 slow 1;boat 2;").hungry(), 1);
        Due.is(35, "lacking() of the first one", Due.dine("guest a takes 3 slow 1;boat 2;").lacking(), 1);
        GravyRound y = Due.dine(GREEDY);
        Due.is(35, "lacking()", y.lacking(), 11);
        Due.is(36, "hungry()", y.hungry(), 6);
        y.pour(20);
        Due.is(35, "lacking() with enough", y.lacking(), 0);
        Due.is(36, "hungry() with enough", y.hungry(), 0);
    }

    private static void slowestAndLaw() {
        GravyRound x = Due.dine(THREE);
        Due.is(37, "slowest(0)", x.slowest(0), 2);
        Due.is(37, "slowest(1)", x.slowest(1), 5);
        Due.is(37, "slowest(2)", x.slowest(2), -1);
        Due.is(37, "slowest(-1)", x.slowest(-1), -1);
        Due.is(38, "law(1)", x.law(1), 2 + 3 + 3);
        Due.is(38, "law(9)", x.law(9), 2 + 11 + 11);
        Due.is(38, "law(0)", x.law(0), -1);
        Due.is(38, "law(10)", x.law(10), -1);
        x.change(1, 2);
        Due.is(37, "slowest(0) of like ones", x.slowest(0), 1);
        Due.is(37, "slowest(1) of like ones", x.slowest(1), 3);
        Due.is(38, "law(1)", x.law(1), 2 + 1 + 3);
        Due.minutes(x, 6);
        Due.is(37, "slowest(0), nobody behind", x.slowest(0), -1);
        Due.is(37, "slowest(1), nobody behind", x.slowest(1), -1);
        Due.is(38, "law(9), nobody behind", x.law(9), 2);
        Due.minutes(x, 2);
        Due.is(38, "law(9) when over", x.law(9), 0);
    }

    private static void odds() {
        int[][] want = {{0, 1, 1, 1}, {0, 4, 1, 1}, {50, 0, 1, 1}, {50, 1, 1, 2}, {50, 4, 1, 16}, {30, 2, 49, 100},
            {3, 4, 88529281, 100000000}, {100, 0, 1, 1}, {100, 1, 0, 1}, {100, 4, 0, 1}, {98, 3, 1, 125000}};
        for (int[] w : want) {
            GravyRound x = Due.dine("leans " + w[0] + ";draw 7;");
            Due.is(39, "odds(" + w[1] + ", 0), leans " + w[0], x.odds(w[1], 0), w[2]);
            Due.is(39, "odds(" + w[1] + ", 1), leans " + w[0], x.odds(w[1], 1), w[3]);
            Due.is(39, "odds(5, 0)", x.odds(5, 0), -1);
            Due.is(39, "odds(-1, 0)", x.odds(-1, 0), -1);
            Due.is(39, "odds(1, 2)", x.odds(1, 2), -1);
            Due.is(39, "odds(1, -1)", x.odds(1, -1), -1);
        }
    }
}
