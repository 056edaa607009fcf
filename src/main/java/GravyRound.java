/**
 * One gravy boat on its way round one table. The dinner is told in a text; then minutes pass, seats and
 * quarrels change, and the class answers who has the boat when, how much and how warm, and what would be better.
 */
public final class GravyRound {
    /** There is none. */
    public static final int NONE = -1;

    /** The answer where -1 already means something else. */
    private static final int NOTHING = -2;
    private static final int MOST_BYTES = 1600;
    private static final int MOST_GUESTS = 7;
    private static final int MOST_FEUDS = 10;
    private static final int MOST_TAKEN = 20;
    private static final int SLOWEST = 9;
    private static final int FULL = 99;
    private static final int MOST_POURED = 20;
    private static final int MOST_WARMED = 50;
    private static final int MOST_ACTS = 40;
    private static final int MOST_MINUTES = 200;
    private static final int MOST_SERVINGS = 4;
    private static final int BOXES = 3;

    private final byte[] tape = new byte[MOST_BYTES];
    private int tapeLength;
    private int faultKind;
    private int faultPlace = NONE;
    private final Dinner told = new Dinner();
    private final Dinner draft = new Dinner();
    private final Reader reader = new Reader(tape, draft);
    private final Table live = new Table(told);
    private final Table trial = new Table(told);
    private final Acts acts = new Acts(told);
    private final Table[] boxes = new Table[BOXES];
    private int filledBoxes;
    private final Row lying = new Row();
    private final Orders orders = new Orders(told);
    private final Shares shares = new Shares();
    private final Company company = new Company();
    private final Sights sights = new Sights(told);

    /** An empty dinner, which is over. */
    public GravyRound() {
        for (int i = 0; i < BOXES; i++) {
            boxes[i] = new Table(told);
        }
        beginAsTold();
    }

    /** Puts twenty bytes on the tape, of each number the highest first; how many there are then. */
    public int feed(int a, int b, int c, int d, int e) {
        if (tapeLength + 20 > MOST_BYTES) {
            return NONE;
        }
        putOnTape(a);
        putOnTape(b);
        putOnTape(c);
        putOnTape(d);
        putOnTape(e);
        return tapeLength;
    }

    /** Cuts the tape to its first n bytes. */
    public int end(int n) {
        if (n < 0 || n > tapeLength) {
            return NONE;
        }
        tapeLength = n;
        return n;
    }

    /** Makes the tape the dinner; how many guests, or NONE if it has a fault. */
    public int dinner() {
        boolean sound = reader.read(tapeLength);
        faultKind = reader.faultKind;
        faultPlace = reader.faultPlace;
        if (!sound) {
            return NONE;
        }
        tapeLength = 0;
        told.copyFrom(draft);
        beginAsTold();
        return told.guests;
    }

    /** The fault of the latest dinner(): which (0), at which place (1). */
    public int fault(int what) {
        switch (what) {
            case 0: return faultKind;
            case 1: return faultPlace;
            default: return NONE;
        }
    }

    /** What is known of a guest. */
    public int guest(int guest, int what) {
        if (!isGuest(guest)) {
            return NONE;
        }
        switch (what) {
            case 0: return live.seatOf(guest);
            case 1: return told.takes[guest];
            case 2: return told.slow[guest];
            case 3: return live.got[guest];
            case 4: return live.warmth[guest];
            case 5: return live.isServed(guest) ? 1 : 0;
            case 6: return live.foesOf(guest);
            default: return NONE;
        }
    }

    /** Who sits in a seat. */
    public int seat(int seat) {
        return isGuest(seat) ? live.who[seat] : NONE;
    }

    /** What is known of a feud. */
    public int feud(int feud, int what) {
        if (!isFeud(feud)) {
            return NONE;
        }
        switch (what) {
            case 0: return told.feudFirst[feud];
            case 1: return told.feudOther[feud];
            case 2: return live.isEnded(feud) ? 1 : 0;
            default: return NONE;
        }
    }

    /** A minute passes; who is served in it (-1: nobody; -2: it is over). */
    public int minute() {
        if (live.isOver()) {
            return NOTHING;
        }
        int served = live.pass(true);
        acts.add(live);
        return served;
    }

    /** Two who are behind change seats; how many minutes it is to go then. */
    public int change(int guest, int other) {
        if (guest == other || !isBehind(guest) || !isBehind(other)) {
            return NONE;
        }
        live.swap(live.seatOf(guest), live.seatOf(other));
        acts.add(live);
        return live.minutesToGo();
    }

    /** A feud is ended; how many minutes it is to go then. */
    public int makeUp(int feud) {
        return isFeud(feud) && !live.isEnded(feud) ? turnFeud(feud) : NONE;
    }

    /** An ended feud begins again; how many minutes it is to go then. */
    public int fallOut(int feud) {
        return isFeud(feud) && live.isEnded(feud) ? turnFeud(feud) : NONE;
    }

    /** Gravy is poured in; how much there is then. */
    public int pour(int much) {
        if (much < 1 || much > MOST_POURED || live.boat >= FULL) {
            return NONE;
        }
        live.boat = Math.min(FULL, live.boat + much);
        acts.add(live);
        return live.boat;
    }

    /** The boat is warmed; its heat then. */
    public int warm(int much) {
        if (much < 1 || much > MOST_WARMED || live.heat >= FULL) {
            return NONE;
        }
        live.heat = Math.min(FULL, live.heat + much);
        acts.add(live);
        return live.heat;
    }

    /** Takes back the latest act. */
    public boolean undo() {
        return acts.goBack(live);
    }

    /** Does again what was taken back last. */
    public boolean redo() {
        return acts.goOn(live);
    }

    /** Behind how many minutes it is over. */
    public int round() {
        return live.minutesToGo();
    }

    /** At which seat it stands behind n minutes. */
    public int stands(int n) {
        return n < 0 || n > MOST_MINUTES ? NONE : live.seatBehind(n);
    }

    /** What a guest will have got (0), how warm (1), behind how many minutes (2). */
    public int will(int guest, int what, int how) {
        if (!isGuest(guest) || what < 0 || what > 2 || how < 0 || how > 1) {
            return NONE;
        }
        trial.copyFrom(live);
        int servedAt = 0;
        for (int m = 1; m <= MOST_MINUTES && !trial.isOver(); m++) {
            if (trial.pass(how == 1) == guest) {
                servedAt = m;
            }
        }
        switch (what) {
            case 0: return trial.got[guest];
            case 1: return trial.warmth[guest];
            default: return servedAt;
        }
    }

    /** The fewest minutes to go by any order of those behind; that order lies there then. */
    public int soonest() {
        lying.clear();
        if (live.isOver()) {
            return 0;
        }
        int more = orders.findCheapest(live, told.across);
        layOrder();
        return live.waiting + live.slownessBehind() + more;
    }

    /** How warm the last one can have it by any order of those behind; that order lies there then. */
    public int warmest() {
        lying.clear();
        if (live.isOver()) {
            return live.heat;
        }
        int warmth = orders.findWarmest(live);
        layOrder();
        return warmth;
    }

    /** How few who don't speak can sit side by side, by any order of those behind. */
    public int peace() {
        return live.isOver() ? 0 : orders.findCheapest(live, 1);
    }

    /** The fewest feuds to end so that it is over in n minutes: how many (0), which (1). */
    public int treaty(int n, int what) {
        if (n < 0 || n > MOST_MINUTES || what < 0 || what > 1) {
            return NONE;
        }
        int over = live.minutesToGo() - n;
        int ending = 0;
        // every feud that lies on the way saves the same, so the first ones are the least set
        for (int f = 0; f < told.feuds && over > 0; f++) {
            if (liesOnTheWay(f)) {
                ending |= 1 << f;
                over -= told.across;
            }
        }
        if (over > 0) {
            return NONE;
        }
        return what == 0 ? Integer.bitCount(ending) : ending;
    }

    /** The fewest guests without whom all speak: how many (0), who (1). */
    public int leave(int what) {
        if (what < 0 || what > 1) {
            return NONE;
        }
        company.look(live);
        int leaving = company.fewestToLeave();
        return what == 0 ? Integer.bitCount(leaving) : leaving;
    }

    /** The fewest tables at each of which all speak; that of each guest lies there then. */
    public int tables() {
        company.look(live);
        int many = company.fewestTables();
        lying.clear();
        for (int g = 0; g < told.guests; g++) {
            lying.put(company.table[g]);
        }
        return many;
    }

    /** The most that each may take so that the last one has some. */
    public int limit() {
        if (live.isOver()) {
            return NONE;
        }
        for (int most = MOST_TAKEN; most >= 0; most--) {
            shares.takeAtMost(live, most);
            if (shares.hand(live) > 0) {
                return most;
            }
        }
        return NONE;
    }

    /** The seat with which one behind should change (0), the minutes to go then (1). */
    public int best(int guest, int what) {
        if (!isBehind(guest) || what < 0 || what > 1) {
            return NONE;
        }
        int own = live.seatOf(guest);
        int bestSeat = NONE;
        int least = 0;
        trial.copyFrom(live);
        for (int s = live.stand + 1; s < told.guests; s++) {
            trial.swap(own, s);
            int minutes = trial.minutesToGo();
            trial.swap(own, s);
            if (bestSeat == NONE || minutes < least) {
                bestSeat = s;
                least = minutes;
            }
        }
        return what == 0 ? bestSeat : least;
    }

    /** Behind how many minutes the heat is first below so much. */
    public int skin(int much) {
        if (much < 0 || much > FULL) {
            return NONE;
        }
        trial.copyFrom(live);
        for (int m = 0; m <= MOST_MINUTES; m++) {
            if (trial.heat < much) {
                return m;
            }
            trial.passOrCool();
        }
        return NONE;
    }

    /** How many rests there are of two who take as they like; the first one lies there then. */
    public int greed(int guest, int other) {
        lying.clear();
        if (guest == other || !isWaitingGuest(guest) || !isWaitingGuest(other)) {
            return NONE;
        }
        int rests = shares.countRests(live, guest, other);
        if (rests > 0) {
            lying.put(shares.restFirst);
            lying.put(shares.restOther);
        }
        return rests;
    }

    /** Whoever a guest can come to by those who speak with one another, as bits. */
    public int clan(int guest) {
        if (!isGuest(guest)) {
            return NONE;
        }
        company.look(live);
        return company.clanOf(guest);
    }

    /** How many clans there are. */
    public int clans() {
        company.look(live);
        return company.countClans();
    }

    /** By how much it would be sooner over, were a feud ended now. */
    public int blame(int feud) {
        if (!isFeud(feud) || live.isEnded(feud)) {
            return NONE;
        }
        return liesOnTheWay(feud) ? told.across : 0;
    }

    /** The guest with most feuds. */
    public int sourest() {
        int found = NONE;
        int most = NONE;
        for (int g = 0; g < told.guests; g++) {
            int foes = Integer.bitCount(live.foesOf(g));
            if (foes > most) {
                most = foes;
                found = g;
            }
        }
        return found;
    }

    /** The one who has had it warmest. */
    public int luckiest() {
        int found = NONE;
        int most = NONE;
        for (int g = 0; g < told.guests; g++) {
            if (live.isServed(g) && live.warmth[g] > most) {
                most = live.warmth[g];
                found = g;
            }
        }
        return found;
    }

    /** How much all will have got less than they take. */
    public int lacking() {
        handAsTold();
        int sum = 0;
        for (int g = 0; g < told.guests; g++) {
            sum += told.takes[g] - shares.got[g];
        }
        return sum;
    }

    /** Who will have got less than he takes, as bits. */
    public int hungry() {
        handAsTold();
        int bits = 0;
        for (int g = 0; g < told.guests; g++) {
            if (shares.got[g] < told.takes[g]) {
                bits |= 1 << g;
            }
        }
        return bits;
    }

    /** The seat behind at which it will wait longest (0), and how long (1). */
    public int slowest(int what) {
        if (what < 0 || what > 1) {
            return NONE;
        }
        int found = NONE;
        int most = NONE;
        for (int s = live.stand + 1; s < told.guests; s++) {
            int wait = live.waitAt(s);
            if (wait > most) {
                most = wait;
                found = s;
            }
        }
        return what == 0 ? found : most;
    }

    /** The minutes to go, if each who is behind were so slow. */
    public int law(int slow) {
        if (slow < 1 || slow > SLOWEST) {
            return NONE;
        }
        if (live.isOver()) {
            return 0;
        }
        int behind = told.guests - live.stand - 1;
        return live.minutesToGo() - live.slownessBehind() + behind * slow;
    }

    /** The odds that nothing is spilt in n servings: the upper part (0), the lower part (1). */
    public int odds(int n, int part) {
        if (n < 0 || n > MOST_SERVINGS || part < 0 || part > 1) {
            return NONE;
        }
        int dry = 100 - told.leans;
        int common = commonDivisor(dry, 100);
        int base = (part == 0 ? dry : 100) / Math.max(1, common);
        int power = 1;
        for (int i = 0; i < n; i++) {
            power *= base;
        }
        return power;
    }

    /** The i-th number of what lies there. */
    public int lies(int i) {
        return i < 0 || i >= lying.count ? NOTHING : lying.numbers[i];
    }

    /** Tells that behind so many minutes it stood at a seat, or did not; the number of that. */
    public int seen(int minutes, int seat, boolean is) {
        return isGuest(seat) ? sights.tell(minutes, seat, is) : NONE;
    }

    /** Takes back what was told, from now on. */
    public boolean untell(int seen) {
        return sights.takeBack(seen);
    }

    /** So much later; the time then. */
    public int later(int by) {
        return sights.goOn(by);
    }

    /** How many a slowness fits what is known at k. */
    public int fits(int k) {
        return Integer.bitCount(sights.fitting(k));
    }

    /** The least slowness that fits (0), the greatest (1). */
    public int sure(int what, int k) {
        int fitting = sights.fitting(k);
        if (fitting == 0 || what < 0 || what > 1) {
            return NONE;
        }
        return what == 0 ? lowestBit(fitting) : highestBit(fitting);
    }

    /** The minutes behind which to look next (0), how many are left then at the most (1). */
    public int ask(int what, int k) {
        int fitting = sights.fitting(k);
        if (fitting == 0 || what < 0 || what > 1) {
            return NONE;
        }
        int minutes = sights.nextToAsk(fitting);
        return what == 0 ? minutes : sights.leftAtMost(fitting, minutes);
    }

    /** Keeps all as it is in a box; the minute. */
    public int image(int box) {
        if (box < 0 || box >= BOXES) {
            return NONE;
        }
        boxes[box].copyFrom(live);
        filledBoxes |= 1 << box;
        return live.minute;
    }

    /** All is as it was kept in a box; the minute. */
    public int back(int box) {
        if (box < 0 || box >= BOXES || (filledBoxes >> box & 1) == 0) {
            return NONE;
        }
        live.copyFrom(boxes[box]);
        acts.begin(live);
        return live.minute;
    }

    /** What else is known. */
    public int about(int what) {
        switch (what) {
            case 0: return told.guests;
            case 1: return told.feuds;
            case 2: return live.boat;
            case 3: return live.heat;
            case 4: return live.isOver() ? NONE : live.stand;
            case 5: return live.waiting;
            case 6: return live.minute;
            case 7: return live.seed;
            case 8: return acts.done;
            case 9: return acts.kept - acts.done;
            case 10: return sights.count;
            case 11: return sights.time;
            case 12: return tapeLength;
            case 13: return told.cools.units;
            case 14: return lying.count;
            case 15: return told.across;
            case 16: return told.leans;
            default: return NOTHING;
        }
    }

    private void beginAsTold() {
        live.begin();
        acts.begin(live);
        sights.begin();
        lying.clear();
        filledBoxes = 0;
    }

    private void putOnTape(int four) {
        for (int shift = 24; shift >= 0 && tapeLength < MOST_BYTES; shift -= 8) {
            tape[tapeLength] = (byte) (four >> shift);
            tapeLength++;
        }
    }

    /** Seats are numbered as guests are, so this serves both. */
    private boolean isGuest(int guest) {
        return guest >= 0 && guest < told.guests;
    }

    private boolean isFeud(int feud) {
        return feud >= 0 && feud < told.feuds;
    }

    private boolean isBehind(int guest) {
        return isGuest(guest) && live.seatOf(guest) > live.stand;
    }

    private boolean isWaitingGuest(int guest) {
        return isGuest(guest) && !live.isServed(guest);
    }

    private int turnFeud(int feud) {
        live.ended ^= 1 << feud;
        acts.add(live);
        return live.minutesToGo();
    }

    /** Whether a feud that is not ended will hold the boat up at a seat behind. */
    private boolean liesOnTheWay(int feud) {
        if (live.isEnded(feud)) {
            return false;
        }
        int one = live.seatOf(told.feudFirst[feud]);
        int two = live.seatOf(told.feudOther[feud]);
        return Math.abs(one - two) == 1 && Math.min(one, two) >= live.stand;
    }

    private void layOrder() {
        for (int i = 0; i < orders.size; i++) {
            lying.put(orders.found[i]);
        }
    }

    private void handAsTold() {
        shares.takeAtMost(live, MOST_TAKEN);
        shares.hand(live);
    }

    private static int lowestBit(int bits) {
        for (int i = 0; i < 32; i++) {
            if ((bits >> i & 1) == 1) {
                return i;
            }
        }
        return NONE;
    }

    private static int highestBit(int bits) {
        for (int i = 31; i >= 0; i--) {
            if ((bits >> i & 1) == 1) {
                return i;
            }
        }
        return NONE;
    }

    private static int commonDivisor(int one, int two) {
        int a = one;
        int b = two;
        for (int i = 0; i < 64 && b != 0; i++) {
            int rest = a % b;
            a = b;
            b = rest;
        }
        return a;
    }

    /** The dinner as it was told. */
    private static final class Dinner {
        int guests;
        final long[] names = new long[MOST_GUESTS];
        final int[] takes = new int[MOST_GUESTS];
        final int[] slow = new int[MOST_GUESTS];
        int feuds;
        final int[] feudFirst = new int[MOST_FEUDS];
        final int[] feudOther = new int[MOST_FEUDS];
        int boat;
        int heat;
        int across;
        int leans;
        int draw;
        final Formula cools = new Formula();

        Dinner() {
            clear();
        }

        void clear() {
            guests = 0;
            feuds = 0;
            boat = 0;
            heat = 0;
            across = 3;
            leans = 0;
            draw = 0;
            cools.clear();
        }

        void copyFrom(Dinner other) {
            guests = other.guests;
            System.arraycopy(other.names, 0, names, 0, MOST_GUESTS);
            System.arraycopy(other.takes, 0, takes, 0, MOST_GUESTS);
            System.arraycopy(other.slow, 0, slow, 0, MOST_GUESTS);
            feuds = other.feuds;
            System.arraycopy(other.feudFirst, 0, feudFirst, 0, MOST_FEUDS);
            System.arraycopy(other.feudOther, 0, feudOther, 0, MOST_FEUDS);
            boat = other.boat;
            heat = other.heat;
            across = other.across;
            leans = other.leans;
            draw = other.draw;
            cools.copyFrom(other.cools);
        }

        void addGuest(long name, int taking, int slowness) {
            if (guests < MOST_GUESTS) {
                names[guests] = name;
                takes[guests] = taking;
                slow[guests] = slowness;
                guests++;
            }
        }

        void addFeud(int one, int other) {
            if (feuds < MOST_FEUDS) {
                feudFirst[feuds] = one;
                feudOther[feuds] = other;
                feuds++;
            }
        }

        int guestNamed(long name) {
            for (int g = 0; g < guests; g++) {
                if (names[g] == name) {
                    return g;
                }
            }
            return NONE;
        }

        /** With whom a guest has a feud that is not among those ended, as bits. */
        int foesOf(int guest, int ended) {
            int bits = 0;
            for (int f = 0; f < feuds; f++) {
                if ((ended >> f & 1) == 0) {
                    if (feudFirst[f] == guest) {
                        bits |= 1 << feudOther[f];
                    } else if (feudOther[f] == guest) {
                        bits |= 1 << feudFirst[f];
                    }
                }
            }
            return bits;
        }

        /** How hot it is one minute later. */
        int cooled(int hot, int left, int minute, int place) {
            int loss = cools.length == 0 ? 1 + hot / 20 : cools.worth(hot, left, minute, place, guests);
            return Math.max(0, hot - Math.max(0, Math.min(FULL, loss)));
        }
    }

    /** How fast it cools: numbers and what is known first, what is done with them behind. */
    private static final class Formula {
        static final int HEAT = -1;
        static final int LEFT = -2;
        static final int MINUTE = -3;
        static final int SEAT = -4;
        static final int GUESTS = -5;
        static final int ADD = -6;
        static final int TAKE = -7;
        static final int TIMES = -8;
        static final int BY = -9;
        static final int REST = -10;
        static final int LESS = -11;
        static final int MORE = -12;
        static final int SAME = -13;
        static final int AND = -14;
        static final int OR = -15;
        static final int NOT = -16;
        static final int MOST_UNITS = 30;
        /** Thirty units, what joins them, and seven nots ahead of each. */
        static final int MOST_STEPS = 300;

        final int[] steps = new int[MOST_STEPS];
        int length;
        int units;
        private final int[] known = new int[5];
        private final int[] stack = new int[MOST_UNITS + 2];

        void clear() {
            length = 0;
            units = 0;
        }

        void copyFrom(Formula other) {
            System.arraycopy(other.steps, 0, steps, 0, MOST_STEPS);
            length = other.length;
            units = other.units;
        }

        void add(int step) {
            if (length < MOST_STEPS) {
                steps[length] = step;
                length++;
            }
        }

        int worth(int heat, int left, int minute, int place, int guests) {
            known[0] = heat;
            known[1] = left;
            known[2] = minute;
            known[3] = place;
            known[4] = guests;
            int top = 0;
            for (int i = 0; i < length; i++) {
                int step = steps[i];
                if (step >= GUESTS) {
                    if (top < stack.length) {
                        stack[top] = step >= 0 ? step : known[HEAT - step];
                        top++;
                    }
                } else if (step == NOT) {
                    if (top > 0) {
                        stack[top - 1] = truth(stack[top - 1] == 0);
                    }
                } else if (top > 1) {
                    top--;
                    stack[top - 1] = joined(step, stack[top - 1], stack[top]);
                }
            }
            return top > 0 ? stack[0] : 0;
        }

        private static int joined(int step, int a, int b) {
            switch (step) {
                case ADD: return a + b;
                case TAKE: return a - b;
                case TIMES: return a * b;
                case BY: return b == 0 ? 0 : a / b;
                case REST: return b == 0 ? 0 : a % b;
                case LESS: return truth(a < b);
                case MORE: return truth(a > b);
                case SAME: return truth(a == b);
                case AND: return truth(a != 0 && b != 0);
                case OR: return truth(a != 0 || b != 0);
                default: return 0;
            }
        }

        private static int truth(boolean is) {
            return is ? 1 : 0;
        }
    }

    /** The tokens of a text, one after the other. A sign's kind is its own byte. */
    private static final class Tokens {
        static final int END = 0;
        static final int BAD = 1;
        static final int NAME = 2;
        static final int NUMBER = 3;
        static final int WORDS = 200;
        static final int GUEST = 200;
        static final int TAKES = 201;
        static final int SLOW = 202;
        static final int FEUD = 203;
        static final int BOAT = 204;
        static final int HEAT = 205;
        static final int ACROSS = 206;
        static final int COOLS = 207;
        static final int LEANS = 208;
        static final int DRAW = 209;
        static final int OR = 210;
        static final int AND = 211;
        static final int NOT = 212;
        static final int LEFT = 213;
        static final int MINUTE = 214;
        static final int SEAT = 215;
        static final int GUESTS = 216;
        static final int WORDS_END = 217;
        private static final String SPELT =
            "guest takes slow feud boat heat across cools leans draw or and not left minute seat guests ";
        private static final String SIGNS = ";()<>=+-*/%";
        private static final int LONGEST_WORD = 8;
        private static final int LONGEST_NUMBER = 4;

        private final byte[] text;
        private final long[] words = new long[WORDS_END - WORDS];
        private int length;
        private int next;
        int kind;
        int start;
        int number;
        long name;

        Tokens(byte[] tape) {
            text = tape;
            packWords();
        }

        private void packWords() {
            int word = 0;
            long packed = 0;
            for (int i = 0; i < SPELT.length() && word < words.length; i++) {
                char sign = SPELT.charAt(i);
                if (sign == ' ') {
                    words[word] = packed;
                    word++;
                    packed = 0;
                } else {
                    packed = packedBy(packed, sign);
                }
            }
        }

        /** Five bits a letter: a word of eight has room in a long. */
        private static long packedBy(long packed, int letter) {
            return packed * 32 + (letter - 'a' + 1);
        }

        void begin(int bytes) {
            length = Math.max(0, Math.min(bytes, text.length));
            next = 0;
            step();
        }

        /** Goes on to the next token. */
        void step() {
            while (next < length && (text[next] == 32 || text[next] == 10)) {
                next++;
            }
            start = next;
            if (next >= length) {
                kind = END;
                return;
            }
            int sign = text[next];
            if (isLetter(sign)) {
                readWord();
            } else if (isDigit(sign)) {
                readNumber();
            } else {
                kind = sign > 0 && SIGNS.indexOf((char) sign) >= 0 ? sign : BAD;
                next++;
            }
        }

        private void readWord() {
            name = 0;
            while (next < length && isLetter(text[next])) {
                name = packedBy(name, text[next]);
                next++;
            }
            kind = next - start > LONGEST_WORD ? BAD : wordKind();
        }

        private int wordKind() {
            for (int w = 0; w < words.length; w++) {
                if (words[w] == name) {
                    return WORDS + w;
                }
            }
            return NAME;
        }

        private void readNumber() {
            number = 0;
            while (next < length && isDigit(text[next])) {
                number = number * 10 + (text[next] - '0');
                next++;
            }
            boolean letterBehind = next < length && isLetter(text[next]);
            kind = letterBehind || next - start > LONGEST_NUMBER ? BAD : NUMBER;
        }

        private static boolean isLetter(int sign) {
            return sign >= 'a' && sign <= 'z';
        }

        private static boolean isDigit(int sign) {
            return sign >= '0' && sign <= '9';
        }
    }

    /** Reads a dinner from the tape, up to its first fault. */
    private static final class Reader {
        private static final int NO_TOKEN = 1;
        private static final int MISPLACED = 2;
        private static final int TOLD_ALREADY = 3;
        private static final int WRONG_NUMBER = 4;
        private static final int NOBODY = 5;
        private static final int DEEPEST = 6;

        private final Tokens tokens;
        private final Dinner into;
        private int toldOnce;
        int faultKind;
        int faultPlace;

        Reader(byte[] tape, Dinner draft) {
            tokens = new Tokens(tape);
            into = draft;
        }

        boolean read(int length) {
            into.clear();
            toldOnce = 0;
            faultKind = 0;
            faultPlace = NONE;
            tokens.begin(length);
            for (int line = 0; line < MOST_BYTES && tokens.kind != Tokens.END; line++) {
                if (!readLine()) {
                    return false;
                }
            }
            return true;
        }

        private boolean readLine() {
            switch (tokens.kind) {
                case Tokens.GUEST: return readGuest();
                case Tokens.FEUD: return readFeud();
                case Tokens.COOLS: return readCools();
                case Tokens.BOAT: return readSetting(FULL);
                case Tokens.HEAT: return readSetting(FULL);
                case Tokens.ACROSS: return readSetting(9);
                case Tokens.LEANS: return readSetting(100);
                case Tokens.DRAW: return readSetting(999);
                default: return refuse(MISPLACED);
            }
        }

        private boolean readGuest() {
            if (into.guests >= MOST_GUESTS) {
                return refuse(MISPLACED);
            }
            tokens.step();
            if (tokens.kind != Tokens.NAME) {
                return refuse(MISPLACED);
            }
            if (into.guestNamed(tokens.name) != NONE) {
                return refuse(TOLD_ALREADY);
            }
            long name = tokens.name;
            tokens.step();
            if (!pass(Tokens.TAKES) || !isNumber(0, MOST_TAKEN)) {
                return false;
            }
            int takes = tokens.number;
            tokens.step();
            if (!pass(Tokens.SLOW) || !isNumber(1, SLOWEST)) {
                return false;
            }
            into.addGuest(name, takes, tokens.number);
            tokens.step();
            return pass(';');
        }

        private boolean readFeud() {
            if (into.feuds >= MOST_FEUDS) {
                return refuse(MISPLACED);
            }
            tokens.step();
            if (!isToldGuest()) {
                return false;
            }
            int one = into.guestNamed(tokens.name);
            tokens.step();
            if (!isToldGuest()) {
                return false;
            }
            int other = into.guestNamed(tokens.name);
            if (one == other || (into.foesOf(one, 0) >> other & 1) == 1) {
                return refuse(TOLD_ALREADY);
            }
            into.addFeud(one, other);
            tokens.step();
            return pass(';');
        }

        private boolean readSetting(int most) {
            int word = tokens.kind;
            if (!isFirstOfSort(word)) {
                return false;
            }
            tokens.step();
            if (!isNumber(0, most)) {
                return false;
            }
            set(word, tokens.number);
            tokens.step();
            return pass(';');
        }

        private void set(int word, int number) {
            switch (word) {
                case Tokens.BOAT: into.boat = number; break;
                case Tokens.HEAT: into.heat = number; break;
                case Tokens.ACROSS: into.across = number; break;
                case Tokens.LEANS: into.leans = number; break;
                case Tokens.DRAW: into.draw = number; break;
                default: break;
            }
        }

        private boolean readCools() {
            if (!isFirstOfSort(Tokens.COOLS)) {
                return false;
            }
            tokens.step();
            return readEither(0) && pass(';');
        }

        private boolean readEither(int depth) {
            if (!readBoth(depth)) {
                return false;
            }
            for (int i = 0; i < MOST_BYTES && tokens.kind == Tokens.OR; i++) {
                tokens.step();
                if (!readBoth(depth)) {
                    return false;
                }
                into.cools.add(Formula.OR);
            }
            return true;
        }

        private boolean readBoth(int depth) {
            if (!readOne(depth)) {
                return false;
            }
            for (int i = 0; i < MOST_BYTES && tokens.kind == Tokens.AND; i++) {
                tokens.step();
                if (!readOne(depth)) {
                    return false;
                }
                into.cools.add(Formula.AND);
            }
            return true;
        }

        private boolean readOne(int depth) {
            if (tokens.kind == Tokens.NOT) {
                if (depth > DEEPEST) {
                    return refuse(MISPLACED);
                }
                tokens.step();
                if (!readOne(depth + 1)) {
                    return false;
                }
                into.cools.add(Formula.NOT);
                return true;
            }
            if (!readSum(depth)) {
                return false;
            }
            int relation = relationOf(tokens.kind);
            if (relation == 0) {
                return true;
            }
            tokens.step();
            if (!readSum(depth)) {
                return false;
            }
            into.cools.add(relation);
            return true;
        }

        private boolean readSum(int depth) {
            if (!readTerm(depth)) {
                return false;
            }
            for (int i = 0; i < MOST_BYTES && (tokens.kind == '+' || tokens.kind == '-'); i++) {
                int step = tokens.kind == '+' ? Formula.ADD : Formula.TAKE;
                tokens.step();
                if (!readTerm(depth)) {
                    return false;
                }
                into.cools.add(step);
            }
            return true;
        }

        private boolean readTerm(int depth) {
            if (!readUnit(depth)) {
                return false;
            }
            for (int i = 0; i < MOST_BYTES && productOf(tokens.kind) != 0; i++) {
                int step = productOf(tokens.kind);
                tokens.step();
                if (!readUnit(depth)) {
                    return false;
                }
                into.cools.add(step);
            }
            return true;
        }

        /** One e alone can be told, so its thirty units keep all below sixty. */
        private boolean readUnit(int depth) {
            if (into.cools.units >= Formula.MOST_UNITS) {
                return refuse(MISPLACED);
            }
            if (tokens.kind == '(') {
                return readInBrackets(depth);
            }
            if (tokens.kind == Tokens.NUMBER) {
                into.cools.add(tokens.number);
            } else {
                int known = knownOf(tokens.kind);
                if (known == 0) {
                    return refuse(MISPLACED);
                }
                into.cools.add(known);
            }
            into.cools.units++;
            tokens.step();
            return true;
        }

        private boolean readInBrackets(int depth) {
            if (depth > DEEPEST) {
                return refuse(MISPLACED);
            }
            into.cools.units++;
            tokens.step();
            return readEither(depth + 1) && pass(')');
        }

        private static int relationOf(int kind) {
            switch (kind) {
                case '<': return Formula.LESS;
                case '>': return Formula.MORE;
                case '=': return Formula.SAME;
                default: return 0;
            }
        }

        private static int productOf(int kind) {
            switch (kind) {
                case '*': return Formula.TIMES;
                case '/': return Formula.BY;
                case '%': return Formula.REST;
                default: return 0;
            }
        }

        private static int knownOf(int kind) {
            switch (kind) {
                case Tokens.HEAT: return Formula.HEAT;
                case Tokens.LEFT: return Formula.LEFT;
                case Tokens.MINUTE: return Formula.MINUTE;
                case Tokens.SEAT: return Formula.SEAT;
                case Tokens.GUESTS: return Formula.GUESTS;
                default: return 0;
            }
        }

        private boolean isFirstOfSort(int word) {
            int bit = 1 << (word - Tokens.WORDS);
            if ((toldOnce & bit) != 0) {
                return refuse(MISPLACED);
            }
            toldOnce |= bit;
            return true;
        }

        private boolean isToldGuest() {
            if (tokens.kind != Tokens.NAME) {
                return refuse(MISPLACED);
            }
            return into.guestNamed(tokens.name) != NONE || refuse(NOBODY);
        }

        private boolean isNumber(int least, int most) {
            if (tokens.kind != Tokens.NUMBER) {
                return refuse(MISPLACED);
            }
            return tokens.number >= least && tokens.number <= most || refuse(WRONG_NUMBER);
        }

        /** Goes on behind a token that must stand here. */
        private boolean pass(int kind) {
            if (tokens.kind != kind) {
                return refuse(MISPLACED);
            }
            tokens.step();
            return true;
        }

        /** Always false: what is no token can't be anything else either. */
        private boolean refuse(int kind) {
            faultKind = tokens.kind == Tokens.BAD ? NO_TOKEN : kind;
            faultPlace = tokens.start;
            return false;
        }
    }

    /** Who sits where and has got what, and how the boat stands. */
    private static final class Table {
        private final Dinner told;
        final int[] who = new int[MOST_GUESTS];
        final int[] got = new int[MOST_GUESTS];
        final int[] warmth = new int[MOST_GUESTS];
        int boat;
        int heat;
        int stand;
        int waiting;
        int ended;
        int minute;
        int seed;

        Table(Dinner dinner) {
            told = dinner;
        }

        void begin() {
            for (int g = 0; g < MOST_GUESTS; g++) {
                who[g] = g;
                got[g] = 0;
                warmth[g] = 0;
            }
            boat = told.boat;
            heat = told.heat;
            ended = 0;
            minute = 0;
            seed = told.draw;
            comeTo(0);
        }

        void copyFrom(Table other) {
            System.arraycopy(other.who, 0, who, 0, MOST_GUESTS);
            System.arraycopy(other.got, 0, got, 0, MOST_GUESTS);
            System.arraycopy(other.warmth, 0, warmth, 0, MOST_GUESTS);
            boat = other.boat;
            heat = other.heat;
            stand = other.stand;
            waiting = other.waiting;
            ended = other.ended;
            minute = other.minute;
            seed = other.seed;
        }

        boolean isOver() {
            return stand >= told.guests;
        }

        int seatOf(int guest) {
            for (int s = 0; s < told.guests; s++) {
                if (who[s] == guest) {
                    return s;
                }
            }
            return NONE;
        }

        /** Nobody ahead of the boat changes seats, so the seat tells it. */
        boolean isServed(int guest) {
            return seatOf(guest) < stand;
        }

        boolean isEnded(int feud) {
            return (ended >> feud & 1) == 1;
        }

        int foesOf(int guest) {
            return told.foesOf(guest, ended);
        }

        /** How long the boat stays at a seat to which it comes. */
        int waitAt(int place) {
            if (place < 0 || place >= told.guests) {
                return 0;
            }
            int guest = who[place];
            boolean cross = place > 0 && (foesOf(guest) >> who[place - 1] & 1) == 1;
            return told.slow[guest] + (cross ? told.across : 0);
        }

        int minutesToGo() {
            int sum = waiting;
            for (int s = stand + 1; s < told.guests; s++) {
                sum += waitAt(s);
            }
            return sum;
        }

        int slownessBehind() {
            int sum = 0;
            for (int s = stand + 1; s < told.guests; s++) {
                sum += told.slow[who[s]];
            }
            return sum;
        }

        /** At which seat it stands behind so many minutes, or NONE if it is over then. */
        int seatBehind(int minutes) {
            int rest = minutes - waiting;
            for (int s = stand; s < told.guests; s++) {
                if (rest < 0) {
                    return s;
                }
                rest -= waitAt(s + 1);
            }
            return NONE;
        }

        void swap(int one, int other) {
            if (one < 0 || one >= told.guests || other < 0 || other >= told.guests) {
                return;
            }
            int guest = who[one];
            who[one] = who[other];
            who[other] = guest;
        }

        /** A minute passes, not to be asked for when it is over; who is served in it, or NONE. */
        int pass(boolean spills) {
            heat = told.cooled(heat, boat, minute, stand);
            minute++;
            waiting--;
            return waiting > 0 ? NONE : serve(spills);
        }

        /** A minute passes, or, when it is over, the boat only cools on. */
        void passOrCool() {
            if (isOver()) {
                heat = told.cooled(heat, boat, minute, Math.max(0, told.guests - 1));
                minute++;
            } else {
                pass(false);
            }
        }

        private int serve(boolean spills) {
            if (stand < 0 || stand >= told.guests) {
                return NONE;
            }
            int guest = who[stand];
            got[guest] = Math.min(told.takes[guest], boat);
            warmth[guest] = heat;
            boat -= got[guest];
            comeTo(stand + 1);
            seed = (seed * 137 + 71) % 1000;
            if (spills && seed % 100 < told.leans && boat > 0) {
                boat--;
            }
            return guest;
        }

        private void comeTo(int place) {
            stand = place;
            waiting = waitAt(place);
        }
    }

    /** The acts that can be undone and done again, as the tables between them. */
    private static final class Acts {
        private static final int SLOTS = MOST_ACTS + 1;

        private final Table[] tables = new Table[SLOTS];
        private int first;
        int done;
        int kept;

        Acts(Dinner dinner) {
            for (int i = 0; i < SLOTS; i++) {
                tables[i] = new Table(dinner);
            }
        }

        void begin(Table table) {
            first = 0;
            done = 0;
            kept = 0;
            slot(0).copyFrom(table);
        }

        void add(Table table) {
            if (done < MOST_ACTS) {
                done++;
            } else {
                first = (first + 1) % SLOTS;
            }
            kept = done;
            slot(done).copyFrom(table);
        }

        boolean goBack(Table table) {
            if (done <= 0) {
                return false;
            }
            done--;
            table.copyFrom(slot(done));
            return true;
        }

        boolean goOn(Table table) {
            if (done >= kept) {
                return false;
            }
            done++;
            table.copyFrom(slot(done));
            return true;
        }

        private Table slot(int act) {
            return tables[Math.floorMod(first + act, SLOTS)];
        }
    }

    /** A short row of numbers: what lies there. */
    private static final class Row {
        final int[] numbers = new int[MOST_GUESTS];
        int count;

        void clear() {
            count = 0;
        }

        void put(int number) {
            if (count < numbers.length) {
                numbers[count] = number;
                count++;
            }
        }
    }

    /** Looks through the orders of those behind, the first ones first. */
    private static final class Orders {
        private static final int BEYOND_ALL = 1000000;

        private final Dinner told;
        private final int[] foes = new int[MOST_GUESTS];
        private final int[] order = new int[MOST_GUESTS];
        private final int[] heats = new int[MOST_GUESTS + 1];
        private final int[] boats = new int[MOST_GUESTS + 1];
        private int firstSeat;
        private int free;
        private int price;
        private int bestYet;
        final int[] found = new int[MOST_GUESTS];
        int size;

        Orders(Dinner dinner) {
            told = dinner;
        }

        /** The least price of an order in which each two side by side who don't speak cost so much. */
        int findCheapest(Table table, int each) {
            look(table);
            price = each;
            bestYet = BEYOND_ALL;
            layCheap(this, 0, table.who[table.stand], free, 0);
            return bestYet;
        }

        /** How warm the last one has it at the most. */
        int findWarmest(Table table) {
            look(table);
            int guest = table.who[table.stand];
            heats[0] = cooledFor(table.heat, table.boat, table.minute, table.waiting, table.stand);
            boats[0] = leftBehind(guest, table.boat);
            bestYet = NONE;
            layWarm(this, 0, guest, free, table.minute + table.waiting);
            return bestYet;
        }

        private void look(Table table) {
            firstSeat = table.stand + 1;
            size = Math.max(0, told.guests - firstSeat);
            free = 0;
            for (int s = firstSeat; s < told.guests; s++) {
                free |= 1 << table.who[s];
            }
            for (int g = 0; g < told.guests; g++) {
                foes[g] = table.foesOf(g);
            }
        }

        private static void layCheap(Orders o, int depth, int last, int free, int cost) {
            if (cost >= o.bestYet) {
                return;
            }
            if (depth >= o.size) {
                o.bestYet = cost;
                o.keepOrder();
                return;
            }
            for (int g = 0; g < o.told.guests; g++) {
                if ((free >> g & 1) == 1) {
                    o.order[depth] = g;
                    int more = o.isFoe(last, g) ? o.price : 0;
                    layCheap(o, depth + 1, g, free & ~(1 << g), cost + more);
                }
            }
        }

        /** It never grows hotter on its way, so what is no hotter than the best end can't beat that. */
        private static void layWarm(Orders o, int depth, int last, int free, int minute) {
            if (o.heats[depth] <= o.bestYet) {
                return;
            }
            if (depth >= o.size) {
                o.bestYet = o.heats[depth];
                o.keepOrder();
                return;
            }
            for (int g = 0; g < o.told.guests; g++) {
                if ((free >> g & 1) == 1) {
                    o.order[depth] = g;
                    int wait = o.told.slow[g] + (o.isFoe(last, g) ? o.told.across : 0);
                    o.heats[depth + 1] = o.cooledFor(o.heats[depth], o.boats[depth], minute, wait, o.firstSeat + depth);
                    o.boats[depth + 1] = o.leftBehind(g, o.boats[depth]);
                    layWarm(o, depth + 1, g, free & ~(1 << g), minute + wait);
                }
            }
        }

        private boolean isFoe(int one, int other) {
            return (foes[one] >> other & 1) == 1;
        }

        private void keepOrder() {
            System.arraycopy(order, 0, found, 0, MOST_GUESTS);
        }

        private int cooledFor(int heat, int left, int minute, int minutes, int place) {
            int hot = heat;
            for (int m = 0; m < minutes; m++) {
                hot = told.cooled(hot, left, minute + m, place);
            }
            return hot;
        }

        private int leftBehind(int guest, int boat) {
            return boat - Math.min(told.takes[guest], boat);
        }
    }

    /** How much each gets, if those who wait take otherwise than told. */
    private static final class Shares {
        private static final int CHOICES = 6;
        private static final int LOSS = 9;

        private final int[] takes = new int[MOST_GUESTS];
        private final int[] gainFirst = new int[CHOICES * CHOICES];
        private final int[] gainOther = new int[CHOICES * CHOICES];
        final int[] got = new int[MOST_GUESTS];
        int restFirst;
        int restOther;

        void takeAtMost(Table table, int most) {
            for (int g = 0; g < table.told.guests; g++) {
                takes[g] = Math.min(table.told.takes[g], most);
            }
        }

        /** Hands the boat on to the end, nothing being spilt; how much the last one gets. */
        int hand(Table table) {
            int left = table.boat;
            int last = 0;
            for (int s = 0; s < table.told.guests; s++) {
                int guest = table.who[s];
                if (s < table.stand) {
                    got[guest] = table.got[guest];
                } else {
                    got[guest] = Math.min(takes[guest], left);
                    left -= got[guest];
                }
                last = got[guest];
            }
            return last;
        }

        int countRests(Table table, int first, int other) {
            reckonGains(table, first, other);
            int rests = 0;
            for (int a = 0; a < CHOICES; a++) {
                for (int b = 0; b < CHOICES; b++) {
                    if (isRest(a, b)) {
                        if (rests == 0) {
                            restFirst = a;
                            restOther = b;
                        }
                        rests++;
                    }
                }
            }
            return rests;
        }

        private void reckonGains(Table table, int first, int other) {
            takeAtMost(table, MOST_TAKEN);
            for (int a = 0; a < CHOICES; a++) {
                for (int b = 0; b < CHOICES; b++) {
                    takes[first] = a;
                    takes[other] = b;
                    int loss = hand(table) > 0 ? 0 : LOSS;
                    gainFirst[a * CHOICES + b] = got[first] - loss;
                    gainOther[a * CHOICES + b] = got[other] - loss;
                }
            }
        }

        private boolean isRest(int a, int b) {
            int at = a * CHOICES + b;
            for (int c = 0; c < CHOICES; c++) {
                if (gainFirst[c * CHOICES + b] > gainFirst[at] || gainOther[a * CHOICES + c] > gainOther[at]) {
                    return false;
                }
            }
            return true;
        }
    }

    /** Who speaks with whom, wherever they sit. */
    private static final class Company {
        private final int[] foes = new int[MOST_GUESTS];
        private int guests;
        final int[] table = new int[MOST_GUESTS];

        void look(Table now) {
            guests = now.told.guests;
            for (int g = 0; g < guests; g++) {
                foes[g] = now.foesOf(g);
            }
        }

        int fewestToLeave() {
            int all = (1 << guests) - 1;
            int found = all;
            for (int set = 0; set <= all; set++) {
                if (Integer.bitCount(set) < Integer.bitCount(found) && allSpeakWithout(set)) {
                    found = set;
                }
            }
            return found;
        }

        private boolean allSpeakWithout(int set) {
            for (int g = 0; g < guests; g++) {
                if ((set >> g & 1) == 0 && (foes[g] & ~set) != 0) {
                    return false;
                }
            }
            return true;
        }

        int fewestTables() {
            for (int many = 0; many < guests; many++) {
                if (canSit(this, 0, many)) {
                    return many;
                }
            }
            canSit(this, 0, guests);
            return guests;
        }

        private static boolean canSit(Company c, int guest, int many) {
            if (guest >= c.guests) {
                return true;
            }
            for (int t = 0; t < many; t++) {
                c.table[guest] = t;
                if (c.speaksAtHisTable(guest) && canSit(c, guest + 1, many)) {
                    return true;
                }
            }
            return false;
        }

        private boolean speaksAtHisTable(int guest) {
            for (int g = 0; g < guest; g++) {
                if (table[g] == table[guest] && (foes[guest] >> g & 1) == 1) {
                    return false;
                }
            }
            return true;
        }

        int clanOf(int guest) {
            int all = (1 << guests) - 1;
            int met = 1 << guest;
            for (int round = 0; round < guests; round++) {
                for (int g = 0; g < guests; g++) {
                    if ((met >> g & 1) == 1) {
                        met |= all & ~foes[g];
                    }
                }
            }
            return met;
        }

        int countClans() {
            int count = 0;
            for (int g = 0; g < guests; g++) {
                boolean isFirstOfHisClan = (clanOf(g) & (1 << g) - 1) == 0;
                count += isFirstOfHisClan ? 1 : 0;
            }
            return count;
        }
    }

    /** What was seen of the dinner as told, and how slow its first guest may be by that. */
    private static final class Sights {
        private static final int MOST_SIGHTS = 30;
        private static final int LATEST_LOOK = 40;
        private static final int MOST_SLOW = 20;
        private static final int LONGEST_STEP = 1000;
        private static final int LAST_TIME = 100000;

        private final Dinner told;
        private final int[] minutes = new int[MOST_SIGHTS];
        private final int[] seats = new int[MOST_SIGHTS];
        private final boolean[] stood = new boolean[MOST_SIGHTS];
        private final int[] toldAt = new int[MOST_SIGHTS];
        private final int[] untoldAt = new int[MOST_SIGHTS];
        private final int[] waits = new int[MOST_GUESTS];
        private final int[] tally = new int[MOST_GUESTS + 1];
        int count;
        int time;

        Sights(Dinner dinner) {
            told = dinner;
        }

        void begin() {
            count = 0;
            for (int s = 1; s < told.guests; s++) {
                boolean cross = (told.foesOf(s, 0) >> (s - 1) & 1) == 1;
                waits[s] = told.slow[s] + (cross ? told.across : 0);
            }
        }

        int tell(int behind, int place, boolean is) {
            if (behind < 0 || behind > LATEST_LOOK || count >= MOST_SIGHTS) {
                return NONE;
            }
            minutes[count] = behind;
            seats[count] = place;
            stood[count] = is;
            toldAt[count] = time;
            untoldAt[count] = NONE;
            count++;
            return count - 1;
        }

        boolean takeBack(int sight) {
            if (sight < 0 || sight >= count || untoldAt[sight] != NONE) {
                return false;
            }
            untoldAt[sight] = time;
            return true;
        }

        int goOn(int by) {
            if (by < 0 || by > LONGEST_STEP || time + by > LAST_TIME) {
                return NONE;
            }
            time += by;
            return time;
        }

        /** Each slowness by which all that counts at k is so, as a bit. */
        int fitting(int k) {
            int bits = 0;
            for (int slow = 1; slow <= MOST_SLOW && told.guests > 0; slow++) {
                if (isFitting(slow, k)) {
                    bits |= 1 << slow;
                }
            }
            return bits;
        }

        private boolean isFitting(int slow, int k) {
            for (int i = 0; i < count; i++) {
                boolean counts = toldAt[i] <= k && (untoldAt[i] == NONE || untoldAt[i] > k);
                if (counts && (seatAt(slow, minutes[i]) == seats[i]) != stood[i]) {
                    return false;
                }
            }
            return true;
        }

        /** At which seat it stood, the first guest being so slow; behind the last seat, if it was over. */
        private int seatAt(int slow, int behind) {
            int rest = behind - slow;
            int place = 0;
            while (place < told.guests && rest >= 0) {
                place++;
                rest -= place < told.guests ? waits[place] : 0;
            }
            return place;
        }

        int nextToAsk(int fitting) {
            int found = 0;
            int least = MOST_SLOW + 1;
            for (int m = 0; m <= LATEST_LOOK; m++) {
                int left = leftAtMost(fitting, m);
                if (left < least) {
                    least = left;
                    found = m;
                }
            }
            return found;
        }

        int leftAtMost(int fitting, int behind) {
            for (int s = 0; s <= told.guests; s++) {
                tally[s] = 0;
            }
            int most = 0;
            for (int slow = 1; slow <= MOST_SLOW; slow++) {
                if ((fitting >> slow & 1) == 1) {
                    int place = seatAt(slow, behind);
                    tally[place]++;
                    most = Math.max(most, tally[place]);
                }
            }
            return most;
        }
    }
}
