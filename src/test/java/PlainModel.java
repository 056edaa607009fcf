import java.util.ArrayList;
import java.util.Arrays;
import java.util.HashMap;
import java.util.List;
import java.util.Map;
import java.util.Set;
import java.util.function.ToIntFunction;

/**
 * The document once more, written a second time in the slowest and plainest way: everything is found by passing
 * the minutes one by one, by trying every order, every set, every table. Tests hold GravyRound against it.
 */
final class PlainModel {
    static final class Fault extends RuntimeException {
        private static final long serialVersionUID = 1L;
        final int kind;
        final int place;

        Fault(int kind, int place) {
            this.kind = kind;
            this.place = place;
        }
    }

    record Token(String text, int place) { }

    record Person(String name, int takes, int slow) { }

    record Env(int heat, int left, int minute, int seat, int guests) { }

    /** Everything that a dinner tells. */
    static final class Told {
        final List<Person> people = new ArrayList<>();
        final List<int[]> feuds = new ArrayList<>();
        final Map<String, Integer> numbers = new HashMap<>(
            Map.of("boat", 0, "heat", 0, "across", 3, "leans", 0, "draw", 0));
        ToIntFunction<Env> cools = e -> 1 + e.heat() / 20;
        int units;
    }

    static final class State {
        Told told;
        List<Integer> seats = new ArrayList<>();
        int[] got;
        int[] warm;
        boolean[] served;
        boolean[] ended;
        int boat;
        int heat;
        int stand;
        int wait;
        int minute;
        int seed;
        int[] takesInstead;

        static State of(Told told) {
            State s = new State();
            s.told = told;
            int n = told.people.size();
            for (int i = 0; i < n; i++) s.seats.add(i);
            s.got = new int[n];
            s.warm = new int[n];
            s.served = new boolean[n];
            s.ended = new boolean[told.feuds.size()];
            s.boat = told.numbers.get("boat");
            s.heat = told.numbers.get("heat");
            s.seed = told.numbers.get("draw");
            s.wait = n == 0 ? 0 : told.people.get(0).slow();
            return s;
        }

        State copy() {
            State s = new State();
            s.told = told;
            s.seats = new ArrayList<>(seats);
            s.got = got.clone();
            s.warm = warm.clone();
            s.served = served.clone();
            s.ended = ended.clone();
            s.boat = boat;
            s.heat = heat;
            s.stand = stand;
            s.wait = wait;
            s.minute = minute;
            s.seed = seed;
            s.takesInstead = takesInstead == null ? null : takesInstead.clone();
            return s;
        }

        int n() {
            return seats.size();
        }

        boolean over() {
            return stand >= n();
        }

        boolean feud(int a, int b) {
            for (int f = 0; f < ended.length; f++) {
                int[] pair = told.feuds.get(f);
                if (!ended[f] && (pair[0] == a && pair[1] == b || pair[0] == b && pair[1] == a)) return true;
            }
            return false;
        }

        int waitOf(int seat) {
            int who = seats.get(seat);
            int wait = told.people.get(who).slow();
            if (seat > 0 && feud(who, seats.get(seat - 1))) wait += told.numbers.get("across");
            return wait;
        }

        void cool(int seat) {
            int less = told.cools.applyAsInt(new Env(heat, boat, minute, seat, n()));
            if (less < 0) less = 0;
            if (less > 99) less = 99;
            heat -= less;
            if (heat < 0) heat = 0;
        }

        int pass(boolean spill) {
            cool(stand);
            wait--;
            int who = -1;
            if (wait == 0) {
                who = seats.get(stand);
                int takes = takesInstead == null ? told.people.get(who).takes() : takesInstead[who];
                got[who] = takes > boat ? boat : takes;
                boat -= got[who];
                warm[who] = heat;
                served[who] = true;
                stand++;
                wait = over() ? 0 : waitOf(stand);
                seed = (137 * seed + 71) % 1000;
                if (spill && seed % 100 < told.numbers.get("leans") && boat > 0) boat--;
            }
            minute++;
            return who;
        }

        int round() {
            State s = copy();
            int minutes = 0;
            while (!s.over()) {
                s.pass(false);
                minutes++;
            }
            return minutes;
        }

        State atEnd(boolean spill) {
            State s = copy();
            while (!s.over()) s.pass(spill);
            return s;
        }

        List<Integer> behind() {
            return over() ? new ArrayList<>() : new ArrayList<>(seats.subList(stand + 1, n()));
        }

        State withBehind(List<Integer> order) {
            State s = copy();
            for (int i = 0; i < order.size(); i++) s.seats.set(stand + 1 + i, order.get(i));
            return s;
        }

        int last() {
            return seats.get(n() - 1);
        }
    }

    // ---- reading a dinner

    private static final Set<String> OWN_WORDS = Set.of("guest", "takes", "slow", "feud", "boat", "heat", "across",
        "cools", "leans", "draw", "or", "and", "not", "left", "minute", "seat", "guests");
    private static final Map<String, Integer> MOST = Map.of("boat", 99, "heat", 99, "across", 9, "leans", 100,
        "draw", 999);

    private static final class Parser {
        final List<Token> tokens = new ArrayList<>();
        final Told told = new Told();
        final List<String> once = new ArrayList<>();
        int at;

        Parser(String text) {
            int i = 0;
            while (i < text.length()) {
                char c = text.charAt(i);
                int j = i + 1;
                if (c == ' ' || c == '\n') {
                    i++;
                    continue;
                }
                if (c >= 'a' && c <= 'z') {
                    while (j < text.length() && text.charAt(j) >= 'a' && text.charAt(j) <= 'z') j++;
                    if (j - i > 8) c = '?';
                } else if (c >= '0' && c <= '9') {
                    while (j < text.length() && text.charAt(j) >= '0' && text.charAt(j) <= '9') j++;
                    if (j - i > 4 || j < text.length() && text.charAt(j) >= 'a' && text.charAt(j) <= 'z') c = '?';
                } else if (";()<>=+-*/%".indexOf(c) < 0) {
                    c = '?';
                }
                tokens.add(new Token(c == '?' ? "?" : text.substring(i, j), i));
                if (c == '?') return;
                i = j;
            }
            tokens.add(new Token("", text.length()));
        }

        String now() {
            return tokens.get(at).text();
        }

        Fault fault(int kind) {
            return new Fault(now().equals("?") ? 1 : kind, tokens.get(at).place());
        }

        boolean take(String... any) {
            if (Arrays.asList(any).contains(now())) {
                at++;
                return true;
            }
            return false;
        }

        void must(String what) {
            if (!take(what)) throw fault(2);
        }

        boolean isName() {
            return now().matches("[a-z]+") && !OWN_WORDS.contains(now());
        }

        int number(int least, int most) {
            if (!now().matches("[0-9]+")) throw fault(2);
            int n = Integer.parseInt(now());
            if (n < least || n > most) throw fault(4);
            at++;
            return n;
        }

        int known(String name) {
            for (int i = 0; i < told.people.size(); i++) if (told.people.get(i).name().equals(name)) return i;
            return -1;
        }

        Told dinner() {
            while (!now().isEmpty()) line();
            return told;
        }

        void line() {
            String word = now();
            if (word.equals("guest") && told.people.size() < 7) {
                at++;
                if (!isName()) throw fault(2);
                if (known(now()) >= 0) throw fault(3);
                String name = now();
                at++;
                must("takes");
                int takes = number(0, 20);
                must("slow");
                told.people.add(new Person(name, takes, number(1, 9)));
            } else if (word.equals("feud") && told.feuds.size() < 10) {
                at++;
                int a = someone();
                at++;
                int b = someone();
                for (int[] f : told.feuds) if (f[0] == a && f[1] == b || f[0] == b && f[1] == a) throw fault(3);
                if (a == b) throw fault(3);
                at++;
                told.feuds.add(new int[] {a, b});
            } else if (MOST.containsKey(word) && !once.contains(word)) {
                once.add(word);
                at++;
                told.numbers.put(word, number(0, MOST.get(word)));
            } else if (word.equals("cools") && !once.contains(word)) {
                once.add(word);
                at++;
                told.cools = e(0);
            } else {
                throw fault(2);
            }
            must(";");
        }

        int someone() {
            if (!isName()) throw fault(2);
            int g = known(now());
            if (g < 0) throw fault(5);
            return g;
        }

        ToIntFunction<Env> e(int deep) {
            ToIntFunction<Env> a = both(deep);
            while (take("or")) {
                ToIntFunction<Env> l = a;
                ToIntFunction<Env> r = both(deep);
                a = x -> (l.applyAsInt(x) != 0 | r.applyAsInt(x) != 0) ? 1 : 0;
            }
            return a;
        }

        ToIntFunction<Env> both(int deep) {
            ToIntFunction<Env> a = one(deep);
            while (take("and")) {
                ToIntFunction<Env> l = a;
                ToIntFunction<Env> r = one(deep);
                a = x -> (l.applyAsInt(x) != 0 & r.applyAsInt(x) != 0) ? 1 : 0;
            }
            return a;
        }

        ToIntFunction<Env> one(int deep) {
            if (now().equals("not")) {
                if (deep == 7) throw fault(2);
                at++;
                ToIntFunction<Env> a = one(deep + 1);
                return x -> a.applyAsInt(x) == 0 ? 1 : 0;
            }
            ToIntFunction<Env> l = sum(deep);
            String sign = now();
            if (!take("<", ">", "=")) return l;
            ToIntFunction<Env> r = sum(deep);
            return x -> {
                int by = Integer.compare(l.applyAsInt(x), r.applyAsInt(x));
                return (sign.equals("<") ? by < 0 : sign.equals(">") ? by > 0 : by == 0) ? 1 : 0;
            };
        }

        ToIntFunction<Env> sum(int deep) {
            ToIntFunction<Env> a = term(deep);
            for (String sign = now(); take("+", "-"); sign = now()) {
                ToIntFunction<Env> l = a;
                ToIntFunction<Env> r = term(deep);
                int by = sign.equals("+") ? 1 : -1;
                a = x -> l.applyAsInt(x) + by * r.applyAsInt(x);
            }
            return a;
        }

        ToIntFunction<Env> term(int deep) {
            ToIntFunction<Env> a = unit(deep);
            for (String sign = now(); take("*", "/", "%"); sign = now()) {
                ToIntFunction<Env> l = a;
                ToIntFunction<Env> r = unit(deep);
                String s = sign;
                a = x -> {
                    long p = l.applyAsInt(x);
                    long q = r.applyAsInt(x);
                    if (s.equals("*")) return (int) (p * q);
                    if (q == 0) return 0;
                    return (int) (s.equals("/") ? p / q : p % q);
                };
            }
            return a;
        }

        ToIntFunction<Env> unit(int deep) {
            String word = now();
            boolean can = word.matches("[0-9]+|heat|left|minute|seat|guests|\\(");
            if (!can || told.units == 30 || word.equals("(") && deep == 7) throw fault(2);
            told.units++;
            at++;
            switch (word) {
                case "(": {
                    ToIntFunction<Env> a = e(deep + 1);
                    must(")");
                    return a;
                }
                case "heat": return Env::heat;
                case "left": return Env::left;
                case "minute": return Env::minute;
                case "seat": return Env::seat;
                case "guests": return Env::guests;
                default: {
                    int n = Integer.parseInt(word);
                    return x -> n;
                }
            }
        }
    }

    // ---- the object

    private record Sight(int minutes, int seat, boolean is, int toldAt, int[] untoldAt) { }

    String tape = "";
    int faultKind;
    int faultPlace = -1;
    Told told = new Told();
    State now = State.of(told);
    List<State> done = new ArrayList<>();
    List<State> undone = new ArrayList<>();
    List<Integer> lying = new ArrayList<>();
    State[] boxes = new State[3];
    List<Sight> sights = new ArrayList<>();
    int time;

    int feed(int a, int b, int c, int d, int e) {
        if (tape.length() + 20 > 1600) return -1;
        StringBuilder more = new StringBuilder();
        for (int v : new int[] {a, b, c, d, e}) {
            more.append((char) (v >>> 24)).append((char) (v >>> 16 & 255));
            more.append((char) (v >>> 8 & 255)).append((char) (v & 255));
        }
        tape += more;
        return tape.length();
    }

    int end(int n) {
        if (n < 0 || n > tape.length()) return -1;
        tape = tape.substring(0, n);
        return n;
    }

    int dinner() {
        try {
            told = new Parser(tape).dinner();
        } catch (Fault f) {
            faultKind = f.kind;
            faultPlace = f.place;
            return -1;
        }
        faultKind = 0;
        faultPlace = -1;
        tape = "";
        now = State.of(told);
        done.clear();
        undone.clear();
        lying.clear();
        boxes = new State[3];
        sights.clear();
        return now.n();
    }

    int fault(int what) {
        return what == 0 ? faultKind : what == 1 ? faultPlace : -1;
    }

    boolean noGuest(int g) {
        return g < 0 || g >= now.n();
    }

    boolean noFeud(int f) {
        return f < 0 || f >= now.ended.length;
    }

    int guest(int g, int what) {
        if (noGuest(g) || what < 0 || what > 6) return -1;
        int bits = 0;
        for (int o = 0; o < now.n(); o++) if (now.feud(g, o)) bits += 1 << o;
        return new int[] {now.seats.indexOf(g), told.people.get(g).takes(), told.people.get(g).slow(), now.got[g],
            now.warm[g], now.served[g] ? 1 : 0, bits}[what];
    }

    int seat(int s) {
        return noGuest(s) ? -1 : now.seats.get(s);
    }

    int feud(int f, int what) {
        if (noFeud(f) || what < 0 || what > 2) return -1;
        return what == 2 ? (now.ended[f] ? 1 : 0) : told.feuds.get(f)[what];
    }

    void act() {
        done.add(now.copy());
        if (done.size() > 40) done.remove(0);
        undone.clear();
    }

    int minute() {
        if (now.over()) return -2;
        act();
        return now.pass(true);
    }

    int change(int a, int b) {
        if (a == b || !now.behind().contains(a) || !now.behind().contains(b)) return -1;
        act();
        int i = now.seats.indexOf(a);
        int j = now.seats.indexOf(b);
        now.seats.set(i, b);
        now.seats.set(j, a);
        return now.round();
    }

    int makeUp(int f) {
        if (noFeud(f) || now.ended[f]) return -1;
        act();
        now.ended[f] = true;
        return now.round();
    }

    int fallOut(int f) {
        if (noFeud(f) || !now.ended[f]) return -1;
        act();
        now.ended[f] = false;
        return now.round();
    }

    int pour(int much) {
        if (much < 1 || much > 20 || now.boat == 99) return -1;
        act();
        now.boat = now.boat + much > 99 ? 99 : now.boat + much;
        return now.boat;
    }

    int warm(int much) {
        if (much < 1 || much > 50 || now.heat == 99) return -1;
        act();
        now.heat = now.heat + much > 99 ? 99 : now.heat + much;
        return now.heat;
    }

    boolean undo() {
        if (done.isEmpty()) return false;
        undone.add(now);
        now = done.remove(done.size() - 1);
        return true;
    }

    boolean redo() {
        if (undone.isEmpty()) return false;
        done.add(now);
        now = undone.remove(undone.size() - 1);
        return true;
    }

    int round() {
        return now.round();
    }

    int stands(int n) {
        if (n < 0 || n > 200) return -1;
        State s = now.copy();
        for (int i = 0; i < n && !s.over(); i++) s.pass(false);
        return s.over() ? -1 : s.stand;
    }

    int will(int g, int what, int how) {
        if (noGuest(g) || what < 0 || what > 2 || how < 0 || how > 1) return -1;
        State s = now.copy();
        int minutes = 0;
        while (what == 2 ? !s.served[g] : !s.over()) {
            s.pass(how == 1);
            minutes++;
        }
        return what == 0 ? s.got[g] : what == 1 ? s.warm[g] : minutes;
    }

    /** Every order of those behind, the first first. */
    static List<List<Integer>> orders(List<Integer> some) {
        List<List<Integer>> all = new ArrayList<>();
        if (some.isEmpty()) {
            all.add(new ArrayList<>());
            return all;
        }
        List<Integer> sorted = new ArrayList<>(some);
        sorted.sort(null);
        for (Integer first : sorted) {
            List<Integer> rest = new ArrayList<>(sorted);
            rest.remove(first);
            for (List<Integer> tail : orders(rest)) {
                tail.add(0, first);
                all.add(tail);
            }
        }
        return all;
    }

    int soonest() {
        int best = Integer.MAX_VALUE;
        for (List<Integer> order : orders(now.behind())) {
            int round = now.withBehind(order).round();
            if (round < best) {
                best = round;
                lying = order;
            }
        }
        return best;
    }

    int warmest() {
        if (now.over()) {
            lying = new ArrayList<>();
            return now.heat;
        }
        int best = -1;
        for (List<Integer> order : orders(now.behind())) {
            State end = now.withBehind(order).atEnd(false);
            int warm = end.warm[end.last()];
            if (warm > best) {
                best = warm;
                lying = order;
            }
        }
        return best;
    }

    int peace() {
        if (now.over()) return 0;
        int best = 99;
        for (List<Integer> order : orders(now.behind())) {
            State s = now.withBehind(order);
            int cross = 0;
            for (int i = s.stand; i + 1 < s.n(); i++) if (s.feud(s.seats.get(i), s.seats.get(i + 1))) cross++;
            best = Math.min(best, cross);
        }
        return best;
    }

    int treaty(int n, int what) {
        if (n < 0 || n > 200 || what < 0 || what > 1) return -1;
        int best = -1;
        for (int set = 0; set < 1 << now.ended.length; set++) {
            State s = now.copy();
            boolean can = true;
            for (int f = 0; f < s.ended.length; f++) {
                if ((set >> f & 1) == 1) {
                    can &= !s.ended[f];
                    s.ended[f] = true;
                }
            }
            boolean fewer = best < 0 || Integer.bitCount(set) < Integer.bitCount(best);
            if (can && fewer && s.round() <= n) best = set;
        }
        return best < 0 ? -1 : what == 0 ? Integer.bitCount(best) : best;
    }

    int leave(int what) {
        if (what < 0 || what > 1) return -1;
        int best = -1;
        for (int set = 0; set < 1 << now.n(); set++) {
            boolean speak = true;
            for (int a = 0; a < now.n(); a++) {
                for (int b = 0; b < a; b++) {
                    if ((set >> a & 1) == 0 && (set >> b & 1) == 0 && now.feud(a, b)) speak = false;
                }
            }
            if (speak && (best < 0 || Integer.bitCount(set) < Integer.bitCount(best))) best = set;
        }
        return what == 0 ? Integer.bitCount(best) : best;
    }

    int tables() {
        int n = now.n();
        for (int k = 0;; k++) {
            for (int code = 0; code < Math.pow(k, n); code++) {
                List<Integer> at = new ArrayList<>();
                for (int g = 0, rest = code; g < n; g++, rest /= k) at.add(0, rest % k);
                boolean speak = true;
                for (int a = 0; a < n; a++) {
                    for (int b = 0; b < a; b++) if (at.get(a).equals(at.get(b)) && now.feud(a, b)) speak = false;
                }
                if (speak) {
                    lying = at;
                    return k;
                }
            }
        }
    }

    int limit() {
        if (now.over()) return -1;
        for (int most = 20; most >= 0; most--) {
            State s = now.copy();
            s.takesInstead = new int[s.n()];
            for (int g = 0; g < s.n(); g++) s.takesInstead[g] = Math.min(most, told.people.get(g).takes());
            s = s.atEnd(false);
            if (s.got[s.last()] > 0) return most;
        }
        return -1;
    }

    int best(int g, int what) {
        if (!now.behind().contains(g) || what < 0 || what > 1) return -1;
        int seat = -1;
        int least = 999;
        for (int s = now.stand + 1; s < now.n(); s++) {
            State t = now.copy();
            t.seats.set(now.seats.indexOf(g), now.seats.get(s));
            t.seats.set(s, g);
            if (t.round() < least) {
                least = t.round();
                seat = s;
            }
        }
        return what == 0 ? seat : least;
    }

    int skin(int much) {
        if (much < 0 || much > 99) return -1;
        State s = now.copy();
        for (int m = 0; m <= 200; m++) {
            if (s.heat < much) return m;
            if (s.over()) {
                s.cool(s.n() == 0 ? 0 : s.n() - 1);
                s.minute++;
            } else {
                s.pass(false);
            }
        }
        return -1;
    }

    private int[] gains(int g, int o, int a, int b) {
        State s = now.copy();
        s.takesInstead = new int[s.n()];
        for (int i = 0; i < s.n(); i++) s.takesInstead[i] = told.people.get(i).takes();
        s.takesInstead[g] = a;
        s.takesInstead[o] = b;
        s = s.atEnd(false);
        int less = s.got[s.last()] == 0 ? 9 : 0;
        return new int[] {s.got[g] - less, s.got[o] - less};
    }

    int greed(int g, int o) {
        lying = new ArrayList<>();
        if (g == o || noGuest(g) || noGuest(o) || now.served[g] || now.served[o]) return -1;
        int rests = 0;
        for (int a = 0; a <= 5; a++) {
            for (int b = 0; b <= 5; b++) {
                int[] here = gains(g, o, a, b);
                boolean rest = true;
                for (int c = 0; c <= 5 && rest; c++) {
                    rest = gains(g, o, c, b)[0] <= here[0] && gains(g, o, a, c)[1] <= here[1];
                }
                if (rest && rests++ == 0) {
                    lying.add(a);
                    lying.add(b);
                }
            }
        }
        return rests;
    }

    int clan(int g) {
        if (noGuest(g)) return -1;
        List<Integer> met = new ArrayList<>(List.of(g));
        for (int i = 0; i < met.size(); i++) {
            for (int o = 0; o < now.n(); o++) {
                if (!met.contains(o) && !now.feud(met.get(i), o)) met.add(o);
            }
        }
        int bits = 0;
        for (int m : met) bits |= 1 << m;
        return bits;
    }

    int clans() {
        List<Integer> unlike = new ArrayList<>();
        for (int g = 0; g < now.n(); g++) if (!unlike.contains(clan(g))) unlike.add(clan(g));
        return unlike.size();
    }

    int blame(int f) {
        if (noFeud(f) || now.ended[f]) return -1;
        State s = now.copy();
        s.ended[f] = true;
        return now.round() - s.round();
    }

    int sourest() {
        int found = -1;
        int most = -1;
        for (int g = 0; g < now.n(); g++) {
            int many = 0;
            for (int o = 0; o < now.n(); o++) if (now.feud(g, o)) many++;
            if (many > most) {
                most = many;
                found = g;
            }
        }
        return found;
    }

    int luckiest() {
        int found = -1;
        for (int g = 0; g < now.n(); g++) {
            if (now.served[g] && (found < 0 || now.warm[g] > now.warm[found])) found = g;
        }
        return found;
    }

    int lacking() {
        State s = now.atEnd(false);
        int sum = 0;
        for (int g = 0; g < s.n(); g++) sum += told.people.get(g).takes() - s.got[g];
        return sum;
    }

    int hungry() {
        State s = now.atEnd(false);
        int bits = 0;
        for (int g = 0; g < s.n(); g++) if (s.got[g] < told.people.get(g).takes()) bits |= 1 << g;
        return bits;
    }

    int slowest(int what) {
        if (what < 0 || what > 1 || now.behind().isEmpty()) return -1;
        int found = now.stand + 1;
        for (int s = found; s < now.n(); s++) if (now.waitOf(s) > now.waitOf(found)) found = s;
        return what == 0 ? found : now.waitOf(found);
    }

    int law(int slow) {
        if (slow < 1 || slow > 9) return -1;
        State s = now.copy();
        Told other = new Told();
        for (int g = 0; g < s.n(); g++) {
            Person p = told.people.get(g);
            other.people.add(new Person(p.name(), p.takes(), now.behind().contains(g) ? slow : p.slow()));
        }
        other.feuds.addAll(told.feuds);
        other.numbers.putAll(told.numbers);
        s.told = other;
        return s.round();
    }

    int odds(int n, int part) {
        if (n < 0 || n > 4 || part < 0 || part > 1) return -1;
        long up = 1;
        long low = 1;
        for (int i = 0; i < n; i++) {
            up *= 100 - told.numbers.get("leans");
            low *= 100;
        }
        java.math.BigInteger g = java.math.BigInteger.valueOf(up).gcd(java.math.BigInteger.valueOf(low));
        return (int) ((part == 0 ? up : low) / g.longValue());
    }

    int lies(int i) {
        return i < 0 || i >= lying.size() ? -2 : lying.get(i);
    }

    int seen(int minutes, int seat, boolean is) {
        if (minutes < 0 || minutes > 40 || noGuest(seat) || sights.size() == 30) return -1;
        sights.add(new Sight(minutes, seat, is, time, new int[] {Integer.MIN_VALUE}));
        return sights.size() - 1;
    }

    boolean untell(int i) {
        if (i < 0 || i >= sights.size() || sights.get(i).untoldAt()[0] != Integer.MIN_VALUE) return false;
        sights.get(i).untoldAt()[0] = time;
        return true;
    }

    int later(int by) {
        if (by < 0 || by > 1000 || time + by > 100000) return -1;
        return time += by;
    }

    /** At which seat it stood in the dinner as told, the first guest being so slow; -1: over. */
    private int stood(int slow, int minutes) {
        State s = State.of(told);
        s.wait = slow;
        for (int i = 0; i < minutes && !s.over(); i++) s.pass(false);
        return s.over() ? -1 : s.stand;
    }

    private List<Integer> fitting(int k) {
        List<Integer> all = new ArrayList<>();
        for (int slow = 1; slow <= 20 && now.n() > 0; slow++) {
            boolean so = true;
            for (Sight s : sights) {
                int untold = s.untoldAt()[0];
                boolean counts = s.toldAt() <= k && !(untold != Integer.MIN_VALUE && untold <= k);
                if (counts && (stood(slow, s.minutes()) == s.seat()) != s.is()) so = false;
            }
            if (so) all.add(slow);
        }
        return all;
    }

    int fits(int k) {
        return fitting(k).size();
    }

    int sure(int what, int k) {
        List<Integer> f = fitting(k);
        if (f.isEmpty() || what < 0 || what > 1) return -1;
        return what == 0 ? f.get(0) : f.get(f.size() - 1);
    }

    int ask(int what, int k) {
        List<Integer> f = fitting(k);
        if (f.isEmpty() || what < 0 || what > 1) return -1;
        int best = -1;
        int least = 99;
        for (int m = 0; m <= 40; m++) {
            Map<Integer, Integer> by = new HashMap<>();
            for (int slow : f) by.merge(stood(slow, m), 1, Integer::sum);
            int most = by.values().stream().mapToInt(x -> x).max().getAsInt();
            if (most < least) {
                least = most;
                best = m;
            }
        }
        return what == 0 ? best : least;
    }

    int image(int box) {
        if (box < 0 || box > 2) return -1;
        boxes[box] = now.copy();
        return now.minute;
    }

    int back(int box) {
        if (box < 0 || box > 2 || boxes[box] == null) return -1;
        now = boxes[box].copy();
        done.clear();
        undone.clear();
        return now.minute;
    }

    int about(int what) {
        if (what < 0 || what > 16) return -2;
        return new int[] {now.n(), now.ended.length, now.boat, now.heat, now.over() ? -1 : now.stand, now.wait,
            now.minute, now.seed, done.size(), undone.size(), sights.size(), time, tape.length(), told.units,
            lying.size(), told.numbers.get("across"), told.numbers.get("leans")}[what];
    }
}
