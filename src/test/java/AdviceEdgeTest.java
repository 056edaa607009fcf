/** The boundary cases of advice (the Terms' third part) and of the promises 20 to 40, each sentence by a test of its own. */
final class AdviceEdgeTest {
    /** The waits are 2, 1 + 2 and 3 + 2; five of heat go in each minute. */
    private static final String THREE = "guest a takes 3 slow 2;guest b takes 4 slow 1;guest c takes 5 slow 3;"
        + "feud b a;feud c b;boat 10;heat 80;across 2;draw 0;cools 5;";
    /** Five of whom no two speak. */
    private static final String ALL_FEUDS = Edges.guests(1, 1, 1, 1, 1) + Edges.feuds("ab ac ad ae bc bd be cd ce de");
    private static final String SEVEN = Edges.guests(1, 1, 1, 1, 1, 1, 1);

    public static void main(String[] args) throws IllegalAccessException {
        Edges.run(AdviceEdgeTest.class);
    }

    private static GravyRound over(String text) {
        GravyRound x = Due.dine(text);
        Due.minutes(x, x.round());
        Due.is(49, "it is over, about(4)", x.about(4), -1);
        return x;
    }

    // ---- what all of it shares

    @Says("(By what is now; nothing is done;")
    private static void nothingIsDone() {
        GravyRound x = Due.dine(THREE + "leans 100;");
        x.change(1, 2);
        Due.minutes(x, 1);
        x.pour(3);
        x.undo();
        x.tables();
        String before = Edges.all(x);
        Due.is(17, "round()", x.round(), 7);
        Due.is(18, "stands(7)", x.stands(7), -1);
        Due.is(19, "will(1, 0, 1)", x.will(1, 0, 1), 0);
        Due.is(22, "peace()", x.peace(), 1);
        Due.is(23, "treaty(5, 1)", x.treaty(5, 1), 2);
        Due.is(24, "leave(1)", x.leave(1), 2);
        Due.is(26, "limit()", x.limit(), 20);
        Due.is(27, "best(1, 0)", x.best(1, 0), 2);
        Due.is(28, "skin(50)", x.skin(50), 6);
        Due.is(30, "clan(0)", x.clan(0), 5);
        Due.is(31, "clans()", x.clans(), 2);
        Due.is(32, "blame(1)", x.blame(1), 2);
        Due.is(33, "sourest()", x.sourest(), 1);
        Due.is(34, "luckiest()", x.luckiest(), -1);
        Due.is(35, "lacking()", x.lacking(), 2);
        Due.is(36, "hungry()", x.hungry(), 2);
        Due.is(37, "slowest(0)", x.slowest(0), 1);
        Due.is(38, "law(9)", x.law(9), 1 + 9 + 11);
        Due.is(39, "odds(1, 0)", x.odds(1, 0), 0);
        Due.is(40, "lies(0)", x.lies(0), 0);
        Due.is(46, "ask(0, 0)", x.ask(0, 0) < 0 ? 1 : 0, 0);
        Edges.same(20, "all that is only asked for", x, before);
        String rest = before.replaceAll(" lies .* fault", " fault").replaceAll("^(([^,]*,){14})[^,]*,", "$1");
        for (int asked = 0; asked < 4; asked++) {
            switch (asked) {
                case 0: x.soonest(); break;
                case 1: x.warmest(); break;
                case 2: x.greed(0, 1); break;
                default: x.greed(0, 0); break;
            }
            String now = Edges.all(x).replaceAll(" lies .* fault", " fault").replaceAll("^(([^,]*,){14})[^,]*,", "$1");
            Due.is(20, "what lies there alone is another, " + asked + " (1: yes)", now.equals(rest) ? 1 : 0, 1);
        }
        Due.is(16, "redo()", x.redo(), true);
    }

    @Says("nothing is spilt, if not told otherwise.)")
    private static void nothingIsSpilt() {
        for (int leans = 0; leans <= 100; leans += 100) {
            GravyRound x = Due.dine(Edges.takers(2, 2, 2) + "boat 6;heat 60;cools left;leans " + leans + ";");
            String by = ", leans " + leans;
            Due.is(19, "will(2, 0, 0)" + by, x.will(2, 0, 0), 2);
            Due.is(21, "warmest()" + by, x.warmest(), 60 - 6 - 4 - 2);
            Due.is(26, "limit()" + by, x.limit(), 20);
            Due.is(28, "skin(49)" + by, x.skin(49), 3);
            Due.is(29, "greed(0, 1)" + by, x.greed(0, 1), 6);
            Due.lies(29, "greed(0, 1)" + by, x, 0, 5);
            Due.is(35, "lacking()" + by, x.lacking(), 0);
            Due.is(36, "hungry()" + by, x.hungry(), 0);
        }
    }

    @Says("BEHIND are those who sit behind the SEAT where it stands.")
    private static void whoIsBehind() {
        GravyRound x = Due.dine(Edges.guests(1, 2, 1));
        x.change(1, 2);
        x.soonest();
        Due.lies(20, "at seat 0", x, 1, 2);
        x.minute();
        x.soonest();
        Due.lies(20, "at seat 1", x, 1);
        Due.is(27, "best() of who sits there", x.best(2, 0), -1);
        Due.is(27, "best() of who is behind", x.best(1, 0), 2);
        x.minute();
        x.soonest();
        Due.lies(20, "at the last seat", x);
        Due.is(27, "best() of who sits there", x.best(1, 0), -1);
    }

    // ---- orders

    @Says("SOONEST: the order in SEATS of those who are BEHIND by which ROUND is least; of like ones the first (SEAT by SEAT: the least"
        + " GUEST).")
    private static void soonestOfLikeOnes() {
        GravyRound x = Due.dine(SEVEN);
        x.change(1, 6);
        x.change(2, 5);
        Due.is(20, "soonest() of like ones", x.soonest(), 7);
        Due.lies(20, "soonest() of like ones", x, 1, 2, 3, 4, 5, 6);
        GravyRound y = Due.dine(SEVEN + Edges.feuds("ab bc cd de ef fg"));
        Due.is(20, "soonest()", y.soonest(), 7);
        // with d in the fifth seat f and g would be left, side by side
        Due.lies(20, "soonest()", y, 2, 4, 1, 5, 3, 6);
        GravyRound z = Due.dine(ALL_FEUDS);
        Due.is(20, "soonest() where no two speak", z.soonest(), 5 + 4 * 3);
        Due.lies(20, "soonest() where no two speak", z, 1, 2, 3, 4);
        GravyRound none = Due.dine(ALL_FEUDS + "across 0;");
        none.change(1, 4);
        Due.is(20, "soonest(), across 0", none.soonest(), 5);
        Due.lies(20, "soonest(), across 0", none, 1, 2, 3, 4);
    }

    @Says(promise = 20, value = "SOONEST: ROUND. Those who are BEHIND lie there then, in order.")
    private static void soonestEdges() {
        GravyRound x = Due.dine(THREE);
        x.tables();
        Due.is(20, "soonest()", x.soonest(), 8);
        Due.lies(20, "soonest()", x, 2, 1);
        Due.minutes(x, 2);
        Due.is(20, "soonest() of one behind", x.soonest(), 8);
        Due.lies(20, "soonest() of one behind", x, 2);
        Due.minutes(x, 4);
        Due.is(20, "soonest() of nobody behind", x.soonest(), 4);
        Due.lies(20, "soonest() of nobody behind", x);
        Due.minutes(x, 4);
        x.tables();
        Due.is(20, "soonest() when over", x.soonest(), 0);
        Due.lies(20, "soonest() when over", x);
        GravyRound none = new GravyRound();
        Due.is(20, "soonest() without guests", none.soonest(), 0);
        Due.lies(20, "soonest() without guests", none);
        GravyRound one = Due.dine(Edges.guests(9));
        Due.is(20, "soonest() of one guest", one.soonest(), 9);
        Due.lies(20, "soonest() of one guest", one);
    }

    @Says("WARMEST: that by which who sits last has it as WARM as can be; of like ones the first.")
    private static void warmestOfLikeOnes() {
        GravyRound x = Due.dine(SEVEN + "heat 99;cools 1;");
        x.change(1, 6);
        Due.is(21, "warmest() of like ones", x.warmest(), 92);
        Due.lies(21, "warmest() of like ones", x, 1, 2, 3, 4, 5, 6);
        GravyRound cold = Due.dine(SEVEN + "heat 0;");
        cold.change(2, 5);
        Due.is(21, "warmest() of the coldest", cold.warmest(), 0);
        Due.lies(21, "warmest() of the coldest", cold, 1, 2, 3, 4, 5, 6);
        GravyRound hot = Due.dine(SEVEN + "heat 99;cools 0;");
        hot.change(3, 4);
        Due.is(21, "warmest() of the hottest", hot.warmest(), 99);
        Due.lies(21, "warmest() of the hottest", hot, 1, 2, 3, 4, 5, 6);
        // who is last counts, not how long it takes: it cools at the last seat alone
        GravyRound last = Due.dine(Edges.guests(1, 2, 9, 1) + "heat 50;cools (seat = 3) * 10;");
        Due.is(21, "warmest() at the last seat", last.warmest(), 40);
        Due.lies(21, "warmest() at the last seat", last, 1, 2, 3);
    }

    @Says("(By what is now")
    private static void warmestByTheMinute() {
        // it cools by the seat in the minutes 0 to 3 alone: c for 3 minutes ahead of b, or b for 2 ahead of c
        GravyRound x = Due.dine(Edges.guests(1, 2, 3) + "heat 50;cools (minute < 4) * seat;");
        Due.is(21, "warmest() in minute 0", x.warmest(), 50 - 3);
        Due.lies(21, "warmest() in minute 0", x, 2, 1);
        x.minute();
        Due.is(21, "warmest() in minute 1, b being where it stands", x.warmest(), 50 - 2 - 2);
        Due.lies(21, "warmest() in minute 1", x, 2);
        x.minute();
        Due.is(21, "warmest() in minute 2", x.warmest(), 50 - 2 - 2);
        x.minute();
        Due.is(21, "warmest() in minute 3", x.warmest(), 50 - 2 - 2);
        x.minute();
        Due.is(21, "warmest() in minute 4", x.warmest(), 50 - 2 - 2);
        x.warm(7);
        Due.is(21, "warmest() when warmed", x.warmest(), 53);
    }

    @Says(promise = 21, value = "WARMEST: how WARM (the HEAT that there is, if it is OVER). Those who are BEHIND lie there then, in order.")
    private static void warmestEdges() {
        GravyRound x = Due.dine(THREE);
        Due.is(21, "warmest()", x.warmest(), 40);
        Due.lies(21, "warmest()", x, 2, 1);
        Due.minutes(x, 5);
        Due.is(21, "warmest() of nobody behind", x.warmest(), 30);
        Due.lies(21, "warmest() of nobody behind", x);
        Due.minutes(x, 5);
        Due.is(21, "warmest() when over", x.warmest(), 30);
        x.warm(50);
        x.tables();
        Due.is(21, "warmest() when over and warmed", x.warmest(), 80);
        Due.lies(21, "warmest() when over", x);
        Due.is(21, "warmest() without guests", Due.dine("heat 77;").warmest(), 77);
        Due.is(21, "warmest() of a new object", new GravyRound().warmest(), 0);
    }

    @Says("PEACE: how few side by side can have a FEUD not ENDED (of whoever sits where it stands, and those BEHIND), by any order of"
        + " those BEHIND (0 if it is OVER).")
    private static void peaceOfWhom() {
        GravyRound x = Due.dine(ALL_FEUDS + "across 0;");
        for (int stand = 0; stand < 5; stand++) {
            Due.is(22, "peace() where no two speak, at seat " + stand, x.peace(), 4 - stand);
            x.minute();
        }
        Due.is(22, "peace() when over", x.peace(), 0);
        // who was served has feuds with all, and counts no more
        GravyRound y = Due.dine(Edges.guests(1, 1, 1, 1) + Edges.feuds("ab ac ad"));
        Due.is(22, "peace() of one with whom nobody speaks", y.peace(), 1);
        y.minute();
        Due.is(22, "peace() when it is past him", y.peace(), 0);
        // who sits where it stands counts
        GravyRound z = Due.dine(Edges.guests(1, 1, 1) + Edges.feuds("ab ac"));
        z.change(1, 2);
        Due.is(22, "peace() with who sits where it stands", z.peace(), 1);
        z.makeUp(1);
        Due.is(22, "peace(), one ended", z.peace(), 0);
    }

    @Says(promise = 22, value = "PEACE.")
    private static void peaceEdges() {
        Due.is(22, "peace() without guests", new GravyRound().peace(), 0);
        Due.is(22, "peace() of one guest", Due.dine(Edges.guests(1)).peace(), 0);
        Due.is(22, "peace() of two", Due.dine(Edges.guests(1, 1) + "feud b a;").peace(), 1);
        Due.is(22, "peace() of seven in a row", Due.dine(SEVEN + Edges.feuds("ab bc cd de ef fg")).peace(), 0);
        GravyRound x = over(THREE);
        Due.is(22, "peace() when over", x.peace(), 0);
        x.undo();
        Due.is(22, "peace() at the last seat", x.peace(), 0);
    }

    // ---- treaty, leave, tables

    @Says("TREATY for n: the fewest FEUDS to be ENDED now so that ROUND is n MINUTES at the most; of like ones the least set as bits.")
    private static void treatyOfLikeOnes() {
        for (String feuds : new String[] {"ab bc cd", "dc cb ba", "bc ab cd"}) {
            GravyRound x = Due.dine(Edges.guests(1, 1, 1, 1) + Edges.feuds(feuds) + "across 9;");
            int[][] nManySet = {{31, 0, 0}, {30, 1, 1}, {22, 1, 1}, {21, 2, 3}, {13, 2, 3}, {12, 3, 7}, {4, 3, 7}, {3, -1, -1}};
            for (int[] n : nManySet) {
                Due.is(23, feuds + ": treaty(" + n[0] + ", 0)", x.treaty(n[0], 0), n[1]);
                Due.is(23, feuds + ": treaty(" + n[0] + ", 1)", x.treaty(n[0], 1), n[2]);
            }
        }
        // the feuds 0, 2 and 5 are of those who don't sit side by side
        GravyRound y = Due.dine(Edges.guests(1, 1, 1, 1) + Edges.feuds("ac cb bd ba cd da"));
        Due.is(23, "treaty(12, 1)", y.treaty(12, 1), 2);
        Due.is(23, "treaty(7, 1)", y.treaty(7, 1), 2 + 8);
        Due.is(23, "treaty(4, 1)", y.treaty(4, 1), 2 + 8 + 16);
        y.makeUp(1);
        Due.is(23, "treaty(7, 1), one ended", y.treaty(7, 1), 8);
        y.minute();
        Due.is(23, "treaty(9, 1): the wait at hand stays", y.treaty(9, 1), 0);
        Due.is(23, "treaty(6, 1): the wait at hand stays", y.treaty(6, 1), 16);
        Due.is(23, "treaty(5, 1): the wait at hand stays", y.treaty(5, 1), -1);
        GravyRound ten = Due.dine(ALL_FEUDS + "across 1;");
        Due.is(23, "treaty(5, 1) of ten", ten.treaty(5, 1), 1 + 16 + 128 + 512);
    }

    @Says(promise = 23, value = {"TREATY (n 0 .. 200) what 0: how many, 1: which, as bits", "NONE if by none, or one can't be."})
    private static void treatyRefused() {
        GravyRound x = Due.dine(THREE);
        for (int n : Edges.beyond(0, 200)) {
            Due.is(23, "treaty(" + n + ", 0)", x.treaty(n, 0), -1);
            Due.is(23, "treaty(" + n + ", 1)", x.treaty(n, 1), -1);
        }
        for (int what : Edges.beyond(0, 1)) {
            Due.is(23, "treaty(200, " + what + ")", x.treaty(200, what), -1);
        }
        Due.is(23, "treaty(200, 0)", x.treaty(200, 0), 0);
        Due.is(23, "treaty(200, 1)", x.treaty(200, 1), 0);
        Due.is(23, "treaty(0, 0): by none", x.treaty(0, 0), -1);
        Due.is(23, "treaty(6, 0)", x.treaty(6, 0), 2);
        Due.is(23, "treaty(5, 0): by none", x.treaty(5, 0), -1);
        Due.is(23, "treaty(5, 1): by none", x.treaty(5, 1), -1);
        Due.is(23, "treaty(0, 0) when over", over(THREE).treaty(0, 0), 0);
        Due.is(23, "treaty(0, 1) without guests", new GravyRound().treaty(0, 1), 0);
        GravyRound ten = Due.dine(ALL_FEUDS);
        Due.is(23, "treaty(5, 0) of ten", ten.treaty(5, 0), 4);
        Due.is(23, "treaty(4, 0) of ten: by none", ten.treaty(4, 0), -1);
        Due.put(ten, Edges.guests(1, 1, 1, 1, 1));
        ten.dinner();
        Due.is(23, "treaty(4, 0), the feuds of another dinner: by none", ten.treaty(4, 0), -1);
        GravyRound idle = Due.dine(Edges.guests(1, 1) + "feud a b;across 0;");
        Due.is(23, "treaty(2, 0), across 0", idle.treaty(2, 0), 0);
        Due.is(23, "treaty(1, 0), across 0", idle.treaty(1, 0), -1);
    }

    @Says("LEAVE: the fewest GUESTS without whom there is no FEUD not ENDED; of like ones the least set as bits.")
    private static void leaveOfLikeOnes() {
        Object[][] feudsManySet = {{"ba", 1, 1}, {"ba dc", 2, 5}, {"bc cd", 1, 4}, {"ab bc cd", 2, 5}, {"ag bg cg", 1, 64},
            {"ab bc ca", 2, 3}, {"ac ad bc bd", 2, 3}, {"gf fe ed", 2, 40}};
        for (Object[] f : feudsManySet) {
            GravyRound x = Due.dine(SEVEN + Edges.feuds((String) f[0]));
            Due.is(24, f[0] + ": leave(0)", x.leave(0), (int) f[1]);
            Due.is(24, f[0] + ": leave(1)", x.leave(1), (int) f[2]);
        }
        GravyRound all = Due.dine(ALL_FEUDS);
        Due.is(24, "leave(0) where no two speak", all.leave(0), 4);
        Due.is(24, "leave(1) where no two speak", all.leave(1), 15);
        all.makeUp(0);
        Due.is(24, "leave(0), one ended", all.leave(0), 3);
        Due.is(24, "leave(1), one ended", all.leave(1), 16 + 8 + 4);
    }

    @Says(promise = 24, value = "NONE for another what.")
    private static void leaveRefused() {
        GravyRound x = Due.dine(THREE);
        for (int what : Edges.beyond(0, 1)) {
            Due.is(24, "leave(" + what + ")", x.leave(what), -1);
            Due.is(24, "leave(" + what + ") without guests", new GravyRound().leave(what), -1);
        }
        Due.is(24, "leave(0) without guests", new GravyRound().leave(0), 0);
        Due.is(24, "leave(1) without guests", new GravyRound().leave(1), 0);
        Due.is(24, "leave(0) without feuds", Due.dine(SEVEN).leave(0), 0);
        Due.is(24, "leave(1) without feuds", Due.dine(SEVEN).leave(1), 0);
        Due.is(24, "leave(1) when over", over(THREE).leave(1), 2);
    }

    @Says("TABLES: the fewest so that at none two have a FEUD not ENDED; of like ones the first (GUEST by GUEST: the least table, 0 ..).")
    private static void tablesOfLikeOnes() {
        GravyRound x = Due.dine(Edges.guests(1, 1, 1, 1) + Edges.feuds("ac cd db"));
        Due.is(25, "tables()", x.tables(), 2);
        Due.lies(25, "tables(): who takes the first free one needs three", x, 0, 1, 1, 0);
        GravyRound y = Due.dine(ALL_FEUDS.replace("feud d e;", "") + Edges.guests(1, 1, 1, 1, 1, 1, 1).substring(5 * 23));
        Due.is(25, "tables() of seven", y.tables(), 4);
        Due.lies(25, "tables() of seven", y, 0, 1, 2, 3, 3, 0, 0);
        y.makeUp(0);
        Due.is(25, "tables(), one ended", y.tables(), 3);
        Due.lies(25, "tables(), one ended", y, 0, 0, 1, 2, 2, 0, 0);
    }

    @Says(promise = 25, value = "TABLES: how many. That of each GUEST lies there then.")
    private static void tablesEdges() {
        GravyRound none = new GravyRound();
        Due.is(25, "tables() without guests", none.tables(), 0);
        Due.lies(25, "tables() without guests", none);
        GravyRound one = Due.dine(Edges.guests(1));
        Due.is(25, "tables() of one", one.tables(), 1);
        Due.lies(25, "tables() of one", one, 0);
        GravyRound all = Due.dine(ALL_FEUDS);
        Due.is(25, "tables() where no two speak", all.tables(), 5);
        Due.lies(25, "tables() where no two speak", all, 0, 1, 2, 3, 4);
        GravyRound seven = Due.dine(SEVEN);
        seven.soonest();
        Due.is(25, "tables() of seven who speak", seven.tables(), 1);
        Due.lies(25, "tables() of seven who speak", seven, 0, 0, 0, 0, 0, 0, 0);
        GravyRound late = over(THREE);
        late.change(1, 2);
        Due.is(25, "tables() when over", late.tables(), 2);
        Due.lies(25, "tables() when over", late, 0, 1, 0);
    }

    // ---- limit, best, skin

    @Says("LIMIT: the most (0 .. 20) that each who is not SERVED may take, if he takes more, so that the last one to be SERVED will"
        + " have GOT some.")
    private static void limits() {
        int[][] boatTakesLimit = {{21, 20, 1, 20}, {20, 20, 1, 19}, {2, 20, 20, 1}, {1, 20, 20, -1}, {10, 9, 1, 20}, {9, 9, 1, 8},
            {1, 0, 20, 20}, {99, 20, 20, 20}};
        for (int[] b : boatTakesLimit) {
            GravyRound x = Due.dine(Edges.takers(b[1], b[2]) + "boat " + b[0] + ";");
            Due.is(26, "limit(), boat " + b[0] + ", takes " + b[1] + " and " + b[2], x.limit(), b[3]);
        }
        // 2 + 7 leave one of ten: who takes 2 takes no more by it
        Due.is(26, "limit() if he takes more", Due.dine(Edges.takers(2, 9, 3) + "boat 10;").limit(), 7);
        GravyRound served = Due.dine(Edges.takers(9, 9, 1) + "boat 12;");
        Due.is(26, "limit() of all", served.limit(), 5);
        served.minute();
        Due.is(26, "limit() of who is not served: 3 are left", served.limit(), 2);
        Due.is(26, "nothing is done", served.guest(0, 3), 9);
        served.minute();
        Due.is(26, "limit(), nothing is left for the last one", served.limit(), -1);
        served.pour(1);
        Due.is(26, "limit(), one is left for the last one", served.limit(), 20);
        // who is last is told by the seats
        GravyRound turned = Due.dine(Edges.takers(1, 0, 3) + "boat 3;");
        Due.is(26, "limit()", turned.limit(), 20);
        turned.change(1, 2);
        Due.is(26, "limit(), the last one takes none", turned.limit(), -1);
    }

    @Says(promise = 26, value = "NONE if by none, or if it is OVER.")
    private static void limitRefused() {
        Due.is(26, "limit() by none: the boat is empty", Due.dine(Edges.takers(1, 1)).limit(), -1);
        Due.is(26, "limit() by none: the last one takes none", Due.dine(Edges.takers(1, 0) + "boat 9;").limit(), -1);
        Due.is(26, "limit() by none: less than there are guests", Due.dine(Edges.takers(1, 1, 1) + "boat 2;").limit(), -1);
        Due.is(26, "limit() of just as many", Due.dine(Edges.takers(9, 9, 9) + "boat 3;").limit(), 1);
        Due.is(26, "limit() when over", over(Edges.takers(1, 1) + "boat 99;").limit(), -1);
        Due.is(26, "limit() without guests", Due.dine("boat 99;").limit(), -1);
    }

    @Says("BEST of one BEHIND: the SEAT of one BEHIND (his own, too) with whom he should change so that ROUND is least; of like ones the"
        + " least.")
    private static void bestOfLikeOnes() {
        GravyRound x = Due.dine(SEVEN);
        for (int g = 1; g < 7; g++) {
            Due.is(27, "best(" + g + ", 0) of like ones", x.best(g, 0), 1);
            Due.is(27, "best(" + g + ", 1) of like ones", x.best(g, 1), 7);
        }
        x.minute();
        Due.is(27, "best(6, 0) a seat further", x.best(6, 0), 2);
        GravyRound y = Due.dine(Edges.guests(1, 1, 1, 1) + Edges.feuds("ab ac"));
        Due.is(27, "best(3, 0)", y.best(3, 0), 1);
        Due.is(27, "best(3, 1)", y.best(3, 1), 4);
        y.change(1, 3);
        Due.is(27, "best(3, 0), his own", y.best(3, 0), 1);
        Due.is(27, "best(1, 0): any but the first", y.best(1, 0), 2);
        GravyRound own = Due.dine(THREE);
        own.change(1, 2);
        Due.is(27, "best(1, 0), his own", own.best(1, 0), 2);
        Due.is(27, "best(1, 1), his own", own.best(1, 1), 8);
    }

    @Says(promise = 27, value = {"BEST what 0: the SEAT, 1: ROUND then", "NONE if he is not BEHIND, there is none such, or for another"
        + " what."})
    private static void bestRefused() {
        GravyRound x = Due.dine(Edges.guests(1, 1, 1, 1));
        x.minute();
        for (int what = 0; what < 2; what++) {
            Due.is(27, "best(0, " + what + ") of one served", x.best(0, what), -1);
            Due.is(27, "best(1, " + what + ") of who sits there", x.best(1, what), -1);
            for (int g : Edges.beyond(0, 3)) {
                Due.is(27, "best(" + g + ", " + what + ")", x.best(g, what), -1);
            }
        }
        for (int what : Edges.beyond(0, 1)) {
            Due.is(27, "best(2, " + what + ")", x.best(2, what), -1);
        }
        Due.is(27, "best(2, 0)", x.best(2, 0), 2);
        Due.is(27, "best(2, 0) when over", over(Edges.guests(1, 1, 1)).best(2, 0), -1);
        Due.is(27, "best(0, 0) without guests", new GravyRound().best(0, 0), -1);
    }

    @Says("SKIN: behind how many MINUTES the HEAT is below so much first (it cools on when OVER, seat being the last one; 0 without"
        + " GUESTS).")
    private static void skinWhenOver() {
        GravyRound x = Due.dine(Edges.guests(1, 1) + "heat 20;cools seat * 3;");
        int[][] muchBehind = {{21, 0}, {20, 2}, {18, 2}, {17, 3}, {14, 4}, {3, 7}, {2, 8}, {1, 8}, {0, -1}};
        for (int[] m : muchBehind) {
            Due.is(28, "skin(" + m[0] + ")", x.skin(m[0]), m[1]);
        }
        Due.minutes(x, 2);
        Due.is(28, "skin(17) when over, at 17", x.skin(17), 1);
        Due.is(28, "skin(18) when over, at 17", x.skin(18), 0);
        Due.is(28, "nothing cools by that", x.about(3), 17);
        // without guests the seat is 0, and the minute goes up all the same
        Due.is(28, "skin(50), the seat being 0", Due.dine("heat 50;cools seat;").skin(50), -1);
        Due.is(28, "skin(50), the seat being 0 and no less", Due.dine("heat 50;cools 1 + seat;").skin(50), 1);
        Due.is(28, "skin(50), guests being 0", Due.dine("heat 50;cools guests;").skin(50), -1);
        Due.is(28, "skin(50), by the minute", Due.dine("heat 50;cools minute;").skin(50), 2);
        // one guest: the last seat is 0
        Due.is(28, "skin(50) of one guest", Due.dine(Edges.guests(1) + "heat 50;cools seat;").skin(50), -1);
        // what he takes is gone then
        Due.is(28, "skin(41) by what is left", Due.dine(Edges.takers(9) + "heat 50;boat 9;cools left;").skin(41), -1);
        Due.is(28, "skin(42) by what is left", Due.dine(Edges.takers(9) + "heat 50;boat 9;cools left;").skin(42), 1);
    }

    @Says(promise = 28, value = "SKIN (so much 0 .. 99): behind 0 .. 200 MINUTES; NONE if not in these, or for another number.")
    private static void skinEdges() {
        GravyRound x = Due.dine("heat 98;cools minute = 199;");
        Due.is(28, "skin(99) of 98", x.skin(99), 0);
        Due.is(28, "skin(98) behind 200", x.skin(98), 200);
        Due.is(28, "skin(97)", x.skin(97), -1);
        Due.is(28, "skin(98) behind 201", Due.dine("heat 98;cools minute = 200;").skin(98), -1);
        Due.is(28, "skin(99) of 99", Due.dine("heat 99;cools 1;").skin(99), 1);
        Due.is(28, "skin(1) of 0", new GravyRound().skin(1), 0);
        Due.is(28, "skin(0) of 0", new GravyRound().skin(0), -1);
        for (int much : Edges.beyond(0, 99)) {
            Due.is(28, "skin(" + much + ")", x.skin(much), -1);
            Due.is(28, "skin(" + much + ") of 0", new GravyRound().skin(much), -1);
        }
        // with those who sit there the minutes go on behind the end as well
        GravyRound y = Due.dine(Edges.guests(9, 9) + "heat 60;cools minute = 199;");
        Due.is(28, "skin(60) long behind the end", y.skin(60), 200);
        y.minute();
        Due.is(28, "skin(60) a minute later", y.skin(60), 199);
    }

    // ---- greed, clans, blame

    @Says("GREED of two who are not SERVED: each takes 0 .. 5 instead; each has what he GOT then, 9 less if the last one to be SERVED GOT"
        + " none; at RESTS neither, the other one's taking so, would have more by another.")
    private static void rests() {
        // enough for all: each takes 5, whatever he was told to take
        GravyRound x = Due.dine(Edges.takers(20, 0, 1) + "boat 99;");
        Due.is(29, "greed(0, 1) of plenty", x.greed(0, 1), 1);
        Due.lies(29, "greed(0, 1) of plenty", x, 5, 5);
        // nothing for all: nobody has more by another
        GravyRound none = Due.dine(Edges.takers(3, 3, 3));
        Due.is(29, "greed(0, 1) of nothing", none.greed(0, 1), 36);
        Due.lies(29, "greed(0, 1) of nothing", none, 0, 0);
        // the last one takes none: 9 less whatever they do
        GravyRound lost = Due.dine(Edges.takers(3, 3, 0) + "boat 99;");
        Due.is(29, "greed(0, 1) that is lost", lost.greed(0, 1), 1);
        Due.lies(29, "greed(0, 1) that is lost", lost, 5, 5);
        // ten for both and the last one: 5 and 5 leave him none
        GravyRound ten = Due.dine(Edges.takers(3, 3, 1) + "boat 10;");
        Due.is(29, "greed(0, 1) of ten", ten.greed(0, 1), 2);
        Due.lies(29, "greed(0, 1) of ten", ten, 4, 5);
        GravyRound eleven = Due.dine(Edges.takers(3, 3, 1) + "boat 11;");
        Due.is(29, "greed(0, 1) of eleven", eleven.greed(0, 1), 1);
        Due.lies(29, "greed(0, 1) of eleven", eleven, 5, 5);
        // one of both is the last one: 4 leave him his one, and at 5 and 0 all is lost
        GravyRound two = Due.dine(Edges.takers(3, 3) + "boat 5;");
        Due.is(29, "greed(0, 1) with the last one", two.greed(0, 1), 6);
        Due.lies(29, "greed(0, 1) with the last one", two, 4, 1);
        Due.is(29, "greed(1, 0) with the last one", two.greed(1, 0), 6);
        Due.lies(29, "greed(1, 0) with the last one", two, 0, 5);
    }

    @Says(promise = 29, value = {"GREED: how many RESTS; NONE if both are one, one is SERVED, or one can't be.", "(the first one's, the"
        + " other one's; of like ones the least; behind 0, NONE: nothing)"})
    private static void greedRefused() {
        GravyRound x = Due.dine(Edges.takers(3, 3, 3) + "boat 50;");
        x.minute();
        for (int g = 0; g < 3; g++) {
            Due.is(29, "greed(" + g + ", " + g + ")", x.greed(g, g), -1);
            Due.is(29, "greed(0, " + g + "), one being served", x.greed(0, g), -1);
            Due.is(29, "greed(" + g + ", 0), one being served", x.greed(g, 0), -1);
        }
        for (int g : Edges.beyond(0, 2)) {
            Due.is(29, "greed(1, " + g + ")", x.greed(1, g), -1);
            Due.is(29, "greed(" + g + ", 1)", x.greed(g, 1), -1);
            Due.is(29, "greed(" + g + ", " + g + ")", x.greed(g, g), -1);
        }
        Due.is(29, "greed(1, 2): one may be where it stands", x.greed(1, 2), 1);
        Due.lies(29, "greed(1, 2)", x, 5, 5);
        x.greed(0, 1);
        Due.lies(29, "behind NONE: nothing", x);
        x.tables();
        x.greed(2, 2);
        Due.lies(29, "behind NONE: nothing, whatever lay there", x);
        GravyRound y = over(Edges.takers(3, 3));
        Due.is(29, "greed(0, 1) when over", y.greed(0, 1), -1);
        Due.is(29, "greed(0, 1) without guests", new GravyRound().greed(0, 1), -1);
        // the first one's ahead of the other one's, by the numbers as they were asked for
        GravyRound ten = Due.dine(Edges.takers(3, 3, 1) + "boat 10;");
        Due.is(29, "greed(1, 0)", ten.greed(1, 0), 2);
        Due.lies(29, "greed(1, 0)", ten, 4, 5);
    }

    @Says("CLAN of a GUEST: he, and whoever he can come to from GUEST to GUEST who have no FEUD (not ENDED) with one another.")
    private static void clanOf() {
        GravyRound x = Due.dine(Edges.guests(1, 1, 1, 1) + Edges.feuds("ab ac ad bc"));
        Due.is(30, "clan(0): nobody speaks with him", x.clan(0), 1);
        Due.is(30, "clan(1): by the friend of both", x.clan(1), 2 + 4 + 8);
        x.makeUp(2);
        for (int g = 0; g < 4; g++) {
            Due.is(30, "clan(" + g + "), one ended", x.clan(g), 15);
        }
        x.fallOut(2);
        Due.is(30, "clan(0), begun again", x.clan(0), 1);
        // a long way: a - c - e - b - d, told so that each step is needed
        GravyRound way = Due.dine(Edges.guests(1, 1, 1, 1, 1) + Edges.feuds("ab ad ae bc cd de"));
        Due.is(30, "clan(0) by a long way", way.clan(0), 31);
        Due.is(31, "clans() by a long way", way.clans(), 1);
    }

    @Says(promise = 30, value = "CLAN, as bits; NONE if there is none such.")
    private static void clanRefused() {
        GravyRound x = Due.dine(SEVEN);
        Due.is(30, "clan(0) of seven", x.clan(0), 127);
        Due.is(30, "clan(6) of seven", x.clan(6), 127);
        for (int g : Edges.beyond(0, 6)) {
            Due.is(30, "clan(" + g + ")", x.clan(g), -1);
        }
        Due.is(30, "clan(0) without guests", new GravyRound().clan(0), -1);
        Due.is(30, "clan(0) of one", Due.dine(Edges.guests(1)).clan(0), 1);
        Due.is(30, "clan(1) of one", Due.dine(Edges.guests(1)).clan(1), -1);
    }

    @Says(promise = 31, value = "How many CLANS there are.")
    private static void clansEdges() {
        Due.is(31, "clans() without guests", new GravyRound().clans(), 0);
        Due.is(31, "clans() of one", Due.dine(Edges.guests(1)).clans(), 1);
        Due.is(31, "clans() of seven who speak", Due.dine(SEVEN).clans(), 1);
        Due.is(31, "clans() where no two speak", Due.dine(ALL_FEUDS).clans(), 5);
        GravyRound x = Due.dine(ALL_FEUDS);
        x.makeUp(9);
        Due.is(31, "clans(), one ended", x.clans(), 4);
    }

    @Says("BLAME of a FEUD: by how much ROUND is less, were it ENDED now.")
    private static void blameOf() {
        for (int across = 0; across <= 9; across += 9) {
            GravyRound x = Due.dine(Edges.guests(1, 1, 1) + Edges.feuds("ac bc ba") + "across " + across + ";");
            Due.is(32, "blame(0): they don't sit side by side", x.blame(0), 0);
            Due.is(32, "blame(1)", x.blame(1), across);
            Due.is(32, "blame(2)", x.blame(2), across);
            x.minute();
            Due.is(32, "blame(1), it is ahead of them", x.blame(1), across);
            Due.is(32, "blame(2), the wait at hand stays", x.blame(2), 0);
            Due.minutes(x, 1 + across);
            Due.is(32, "blame(1), the wait at hand stays", x.blame(1), 0);
        }
    }

    @Says(promise = 32, value = "BLAME; NONE if it is ENDED, or there is none such.")
    private static void blameRefused() {
        GravyRound x = Due.dine(THREE);
        for (int f : Edges.beyond(0, 1)) {
            Due.is(32, "blame(" + f + ")", x.blame(f), -1);
        }
        x.makeUp(1);
        Due.is(32, "blame(1) of one ended", x.blame(1), -1);
        Due.is(32, "blame(0)", x.blame(0), 2);
        x.fallOut(1);
        Due.is(32, "blame(1) of one begun again", x.blame(1), 2);
        Due.is(32, "blame(0) when over", over(THREE).blame(0), 0);
        Due.is(32, "blame(0) of none", Due.dine(SEVEN).blame(0), -1);
    }

    // ---- who, and how much

    @Says(promise = 33, value = "The GUEST with most FEUDS not ENDED; of like ones the first; NONE without GUESTS.")
    private static void sourestEdges() {
        Due.is(33, "sourest() without guests", new GravyRound().sourest(), -1);
        Due.is(33, "sourest() of one", Due.dine(Edges.guests(1)).sourest(), 0);
        Due.is(33, "sourest() without feuds", Due.dine(SEVEN).sourest(), 0);
        Due.is(33, "sourest() of like ones", Due.dine(ALL_FEUDS).sourest(), 0);
        Due.is(33, "sourest() of two alike", Due.dine(SEVEN + Edges.feuds("gf")).sourest(), 5);
        GravyRound x = Due.dine(SEVEN + Edges.feuds("bg cg cd"));
        Due.is(33, "sourest() of c and g, two each", x.sourest(), 2);
        x.makeUp(2);
        Due.is(33, "sourest(), one ended", x.sourest(), 6);
        x.change(1, 6);
        Due.is(33, "sourest() has nothing to do with seats", x.sourest(), 6);
    }

    @Says(promise = 34, value = "The one who is SERVED whose WARM is greatest; of like ones the first; NONE if nobody is.")
    private static void luckiestEdges() {
        Due.is(34, "luckiest() without guests", new GravyRound().luckiest(), -1);
        GravyRound x = Due.dine(Edges.guests(2, 1, 1) + "heat 10;cools 0;");
        Due.is(34, "luckiest() of nobody", x.luckiest(), -1);
        x.minute();
        Due.is(34, "luckiest() of nobody yet", x.luckiest(), -1);
        for (int m = 0; m < 3; m++) {
            x.minute();
            Due.is(34, "luckiest() of like ones", x.luckiest(), 0);
        }
        GravyRound cold = Due.dine(Edges.guests(1, 1));
        cold.minute();
        Due.is(34, "luckiest() who has it cold", cold.luckiest(), 0);
        GravyRound late = Due.dine(Edges.guests(1, 1, 1) + "heat 10;cools 1;");
        late.minute();
        late.warm(1);
        late.minute();
        Due.is(34, "luckiest() of like ones", late.luckiest(), 0);
        late.warm(2);
        late.minute();
        Due.is(34, "luckiest(): one who has it warmer", late.luckiest(), 2);
        late.undo();
        Due.is(34, "luckiest(), that undone", late.luckiest(), 0);
    }

    @Says(promise = 35, value = "How much all will have GOT less than they take, together.")
    private static void lackingEdges() {
        Due.is(35, "lacking() without guests", new GravyRound().lacking(), 0);
        Due.is(35, "lacking() of the most", Due.dine(SEVEN.replace("takes 1", "takes 20")).lacking(), 140);
        Due.is(35, "lacking() of just enough", Due.dine(Edges.takers(3, 4) + "boat 7;").lacking(), 0);
        Due.is(35, "lacking() of one too little", Due.dine(Edges.takers(3, 4) + "boat 6;").lacking(), 1);
        Due.is(35, "lacking() of those who take none", Due.dine(Edges.takers(0, 0)).lacking(), 0);
        GravyRound x = over(Edges.takers(3, 4) + "boat 5;");
        x.pour(20);
        Due.is(35, "lacking() when over", x.lacking(), 2);
    }

    @Says(promise = 36, value = "GUESTS who will have GOT less than they take, as bits.")
    private static void hungryEdges() {
        Due.is(36, "hungry() without guests", new GravyRound().hungry(), 0);
        Due.is(36, "hungry() of all", Due.dine(SEVEN).hungry(), 127);
        Due.is(36, "hungry() of just enough", Due.dine(Edges.takers(3, 4) + "boat 7;").hungry(), 0);
        Due.is(36, "hungry() of one too little", Due.dine(Edges.takers(3, 4) + "boat 6;").hungry(), 2);
        Due.is(36, "hungry() who takes none", Due.dine(Edges.takers(0, 1, 0)).hungry(), 2);
        GravyRound x = Due.dine(Edges.takers(3, 4, 5) + "boat 7;");
        x.change(1, 2);
        Due.is(36, "hungry() by the seats", x.hungry(), 2 + 4);
        Due.minutes(x, 3);
        x.pour(20);
        Due.is(36, "hungry() when over", x.hungry(), 2 + 4);
    }

    @Says(promise = 37, value = {"The SEAT of one BEHIND whose WAIT will be greatest; of like ones the first", "NONE if nobody is BEHIND,"
        + " or for another what."})
    private static void slowestEdges() {
        GravyRound x = Due.dine(Edges.guests(9, 2, 4, 4));
        Due.is(37, "slowest(0) of like ones", x.slowest(0), 2);
        Due.is(37, "slowest(1) of like ones", x.slowest(1), 4);
        for (int what : Edges.beyond(0, 1)) {
            Due.is(37, "slowest(" + what + ")", x.slowest(what), -1);
        }
        Due.minutes(x, 9 + 2);
        Due.is(37, "slowest(0) of one behind", x.slowest(0), 3);
        Due.minutes(x, 4);
        Due.is(37, "slowest(0) of nobody behind", x.slowest(0), -1);
        Due.is(37, "slowest(1) of nobody behind", x.slowest(1), -1);
        Due.minutes(x, 4);
        Due.is(37, "slowest(0) when over", x.slowest(0), -1);
        Due.is(37, "slowest(0) without guests", new GravyRound().slowest(0), -1);
        Due.is(37, "slowest(1) of one guest", Due.dine(Edges.guests(5)).slowest(1), -1);
        GravyRound most = Due.dine(Edges.guests(1, 1, 9) + "feud b c;across 9;");
        Due.is(37, "slowest(1): as long as can be", most.slowest(1), 18);
        most.makeUp(0);
        Due.is(37, "slowest(1), that ended", most.slowest(1), 9);
    }

    @Says(promise = 38, value = "ROUND, if each who is BEHIND were so slow (1 .. 9); NONE for another number.")
    private static void lawEdges() {
        GravyRound x = Due.dine(THREE);
        for (int slow = 1; slow <= 9; slow++) {
            Due.is(38, "law(" + slow + ")", x.law(slow), 2 + 2 * (slow + 2));
        }
        for (int slow : Edges.beyond(1, 9)) {
            Due.is(38, "law(" + slow + ")", x.law(slow), -1);
            Due.is(38, "law(" + slow + ") without guests", new GravyRound().law(slow), -1);
        }
        x.minute();
        Due.is(38, "law(9): who sits there is as slow as he is", x.law(9), 1 + 11 + 11);
        Due.minutes(x, 5);
        Due.is(38, "law(9) of nobody behind", x.law(9), 4);
        Due.minutes(x, 4);
        Due.is(38, "law(9) when over", x.law(9), 0);
        Due.is(38, "law(1) without guests", new GravyRound().law(1), 0);
    }

    @Says("ODDS: that nothing is spilt in n SERVINGS, whatever the SEED is.")
    private static void oddsOfAnySeed() {
        for (int draw : new int[] {0, 44, 817, 999}) {
            GravyRound x = Due.dine(Edges.guests(1, 1) + "boat 9;leans 20;draw " + draw + ";");
            for (int served = 0; served < 3; served++) {
                Due.is(39, "odds(2, 0), draw " + draw, x.odds(2, 0), 16);
                Due.is(39, "odds(2, 1), draw " + draw, x.odds(2, 1), 25);
                x.minute();
            }
        }
    }

    @Says(promise = 39, value = {"ODDS (n 0 .. 4) the upper part (0), the lower part (1), in lowest terms (0 of 1); NONE if one can't be."})
    private static void oddsEdges() {
        int[][] leansUpperLower = {{0, 1, 1}, {100, 0, 1}, {50, 1, 16}, {99, 1, 100000000}, {1, 96059601, 100000000}, {75, 1, 256},
            {4, 331776, 390625}, {20, 256, 625}};
        for (int[] w : leansUpperLower) {
            GravyRound x = Due.dine("leans " + w[0] + ";");
            Due.is(39, "odds(0, 0), leans " + w[0], x.odds(0, 0), 1);
            Due.is(39, "odds(0, 1), leans " + w[0], x.odds(0, 1), 1);
            Due.is(39, "odds(4, 0), leans " + w[0], x.odds(4, 0), w[1]);
            Due.is(39, "odds(4, 1), leans " + w[0], x.odds(4, 1), w[2]);
        }
        GravyRound x = Due.dine("leans 100;");
        for (int n = 1; n <= 4; n++) {
            Due.is(39, "odds(" + n + ", 0): 0 of 1", x.odds(n, 0), 0);
            Due.is(39, "odds(" + n + ", 1): 0 of 1", x.odds(n, 1), 1);
        }
        for (int n : Edges.beyond(0, 4)) {
            Due.is(39, "odds(" + n + ", 0)", x.odds(n, 0), -1);
            Due.is(39, "odds(" + n + ", 1)", x.odds(n, 1), -1);
        }
        for (int part : Edges.beyond(0, 1)) {
            Due.is(39, "odds(1, " + part + ")", x.odds(1, part), -1);
        }
    }

    @Says(promise = 40, value = "The i-th number of what lies there; -2 if there is none such.")
    private static void liesEdges() {
        GravyRound x = Due.dine(SEVEN);
        Due.is(40, "lies(0) of nothing", x.lies(0), -2);
        x.soonest();
        for (int i = 0; i < 6; i++) {
            Due.is(40, "lies(" + i + ")", x.lies(i), i + 1);
        }
        for (int i : Edges.beyond(0, 5)) {
            Due.is(40, "lies(" + i + ")", x.lies(i), -2);
        }
        x.tables();
        Due.is(40, "lies(6) of seven", x.lies(6), 0);
        Due.is(40, "lies(7) of seven", x.lies(7), -2);
        x.greed(0, 1);
        Due.is(40, "lies(2) of two", x.lies(2), -2);
        Due.is(40, "lies(0) of a new object", new GravyRound().lies(0), -2);
    }
}
