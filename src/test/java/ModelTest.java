import java.lang.reflect.Method;
import java.util.ArrayList;
import java.util.List;
import java.util.Random;

/** Long runs of calls, drawn from fixed seeds, on GravyRound and on the plain model: each answer must be the same. */
final class ModelTest {
    private static final int RUNS = 4000;
    /** The document promises nothing of an object behind its 512th call. */
    private static final int MOST_CALLS = 512;
    private static final int LAST_LOOK = 130;
    private static int wrong = 0;
    private static int calls = 0;
    private static final List<Method> FACE = new ArrayList<>();
    private static final List<Method> MODEL = new ArrayList<>();

    public static void main(String[] args) throws Exception {
        for (Method m : GravyRound.class.getDeclaredMethods()) {
            if (java.lang.reflect.Modifier.isPublic(m.getModifiers())) {
                FACE.add(m);
            }
        }
        FACE.sort((a, b) -> a.getName().compareTo(b.getName()));
        for (Method m : FACE) {
            MODEL.add(PlainModel.class.getDeclaredMethod(m.getName(), m.getParameterTypes()));
        }
        for (int run = 0; run < RUNS && wrong < 20; run++) {
            meals(new Random(run), run);
        }
        for (int run = 0; run < 20000 && wrong < 20; run++) {
            texts(new Random(run), run);
        }
        System.out.println(wrong == 0 ? "the model answers the same" : wrong + " answers differ");
        if (wrong != 0) {
            System.exit(1);
        }
    }

    /** One object: a few dinners, calls of every kind between them, a look at something behind each, at all in the end. */
    private static void meals(Random r, int run) throws Exception {
        GravyRound x = new GravyRound();
        PlainModel y = new PlainModel();
        calls = 0;
        String text = "";
        while (calls < MOST_CALLS - LAST_LOOK - 3) {
            if (calls == 0 ? r.nextInt(8) > 0 : calls < 250 && r.nextInt(100) == 0) {
                text = r.nextInt(6) == 0 ? spoilt(r, text(r)) : text(r);
                feedAll(x, y, text);
                check(run, text, "dinner", x.dinner(), y.dinner());
                if (y.faultKind != 0) {
                    check(run, text, "end", x.end(0), y.end(0));
                }
            }
            int i = r.nextInt(FACE.size());
            Method m = FACE.get(i);
            if (m.getName().equals("dinner") || m.getName().equals("feed") || m.getName().equals("end")) {
                continue;
            }
            // minutes and acts come more often than the rest
            if (r.nextInt(4) == 0) {
                i = indexOf(List.of("minute", "change", "makeUp", "undo", "redo", "seen", "fallOut").get(r.nextInt(7)));
                m = FACE.get(i);
            }
            Object[] with = new Object[m.getParameterCount()];
            for (int p = 0; p < with.length; p++) {
                with[p] = m.getParameterTypes()[p] == boolean.class ? (Object) r.nextBoolean() : (Object) number(r, m, p);
            }
            Object got = m.invoke(x, with);
            Object want = MODEL.get(i).invoke(y, with);
            check(run, text, m.getName() + List.of(with), got, want);
            int k = r.nextInt(17);
            check(run, text, m.getName() + List.of(with) + " then about(" + k + ")", x.about(k), y.about(k));
            if (y.lying.size() > 0 && r.nextInt(3) == 0) {
                k = r.nextInt(8);
                check(run, text, m.getName() + List.of(with) + " then lies(" + k + ")", x.lies(k), y.lies(k));
            }
        }
        lookAtAll(x, y, run, text);
        if (calls > MOST_CALLS) {
            throw new IllegalStateException("run " + run + " has " + calls + " calls");
        }
    }

    private static void lookAtAll(GravyRound x, PlainModel y, int run, String text) {
        for (int k = 0; k <= 16; k++) {
            check(run, text, "at the end about(" + k + ")", x.about(k), y.about(k));
        }
        for (int k = 0; k <= 7; k++) {
            check(run, text, "at the end lies(" + k + ")", x.lies(k), y.lies(k));
        }
        for (int g = 0; g < y.about(0); g++) {
            for (int what = 0; what <= 6; what++) {
                check(run, text, "at the end guest(" + g + ", " + what + ")", x.guest(g, what), y.guest(g, what));
            }
            check(run, text, "at the end seat(" + g + ")", x.seat(g), y.seat(g));
        }
        for (int f = 0; f < y.about(1); f++) {
            for (int what = 0; what <= 2; what++) {
                check(run, text, "at the end feud(" + f + ", " + what + ")", x.feud(f, what), y.feud(f, what));
            }
        }
    }

    private static int indexOf(String name) {
        for (int i = 0; i < FACE.size(); i++) {
            if (FACE.get(i).getName().equals(name)) {
                return i;
            }
        }
        throw new IllegalStateException(name);
    }

    private static int number(Random r, Method m, int p) {
        if (r.nextInt(40) == 0) {
            int[] odd = {-1, -2, Integer.MIN_VALUE, Integer.MAX_VALUE, 7, 10, 21, 51, 99, 100, 200, 201, 1000, 1001};
            return odd[r.nextInt(odd.length)];
        }
        switch (m.getName()) {
            case "treaty": return p == 0 ? r.nextInt(60) : r.nextInt(2);
            case "stands": return r.nextInt(70);
            case "skin": return r.nextInt(100);
            case "pour": return 1 + r.nextInt(20);
            case "warm": return 1 + r.nextInt(50);
            case "law": return 1 + r.nextInt(9);
            case "odds": return p == 0 ? r.nextInt(5) : r.nextInt(2);
            case "seen": return p == 0 ? r.nextInt(41) : r.nextInt(7);
            case "untell": return r.nextInt(12);
            case "later": return r.nextInt(4);
            case "fits": return r.nextInt(40);
            case "sure":
            case "ask": return p == 0 ? r.nextInt(2) : r.nextInt(40);
            case "image":
            case "back": return r.nextInt(3);
            case "feud": return p == 0 ? r.nextInt(10) : r.nextInt(3);
            case "makeUp":
            case "fallOut":
            case "blame": return r.nextInt(10);
            case "will": return p == 0 ? r.nextInt(7) : p == 1 ? r.nextInt(3) : r.nextInt(2);
            default: return p == 0 ? r.nextInt(7) : r.nextInt(7);
        }
    }

    /** One text on one object: the same fault at the same place. */
    private static void texts(Random r, int run) {
        GravyRound x = new GravyRound();
        PlainModel y = new PlainModel();
        String text = text(r);
        for (int i = r.nextInt(3); i >= 0; i--) {
            text = spoilt(r, text);
        }
        feedAll(x, y, text);
        check(run, text, "dinner", x.dinner(), y.dinner());
        check(run, text, "fault(0)", x.fault(0), y.fault(0));
        check(run, text, "fault(1)", x.fault(1), y.fault(1));
        for (int k = 0; k <= 16; k++) {
            check(run, text, "about(" + k + ")", x.about(k), y.about(k));
        }
        check(run, text, "skin", x.skin(20), y.skin(20));
    }

    private static void feedAll(GravyRound x, PlainModel y, String text) {
        int[] v = new int[5];
        int had = y.tape.length();
        for (int i = 0; i < text.length(); i += 20) {
            for (int j = 0; j < 20; j++) {
                v[j / 4] = v[j / 4] << 8 | (i + j < text.length() ? text.charAt(i + j) : ' ');
            }
            check(0, text, "feed", x.feed(v[0], v[1], v[2], v[3], v[4]), y.feed(v[0], v[1], v[2], v[3], v[4]));
        }
        check(0, text, "end", x.end(had + text.length()), y.end(had + text.length()));
    }

    private static void check(int run, String text, String call, Object got, Object want) {
        calls++;
        if (!got.equals(want)) {
            wrong++;
            if (wrong < 20) {
                System.out.println("run " + run + " [" + text + "]: " + call + " answered " + got + ", due is " + want);
            }
        }
    }

    // ---- texts

    private static final String[] NAMES = {"lady", "uncle", "aunt", "boy", "x", "godchild", "dean", "cook"};

    private static String text(Random r) {
        StringBuilder b = new StringBuilder();
        int guests = r.nextInt(12) == 0 ? r.nextInt(3) : 2 + r.nextInt(6);
        for (int g = 0; g < guests; g++) {
            b.append("guest ").append(NAMES[g]).append(" takes ").append(r.nextInt(21));
            b.append(r.nextBoolean() ? " " : "\n").append("slow ").append(1 + r.nextInt(r.nextBoolean() ? 9 : 3)).append(";");
        }
        List<Integer> pairs = new ArrayList<>();
        for (int p = 0; p < guests * guests; p++) {
            if (p / guests < p % guests) {
                pairs.add(p);
            }
        }
        java.util.Collections.shuffle(pairs, r);
        int feuds = Math.min(pairs.size(), r.nextInt(11));
        for (int f = 0; f < feuds; f++) {
            int p = pairs.get(f);
            boolean turned = r.nextBoolean();
            b.append("feud ").append(NAMES[turned ? p / guests : p % guests]).append(" ");
            b.append(NAMES[turned ? p % guests : p / guests]).append(" ;");
        }
        List<String> rest = new ArrayList<>();
        if (r.nextInt(6) > 0) rest.add("boat " + r.nextInt(r.nextBoolean() ? 100 : 40) + ";");
        if (r.nextInt(6) > 0) rest.add("heat " + (r.nextInt(4) == 0 ? r.nextInt(100) : 60 + r.nextInt(40)) + ";");
        if (r.nextBoolean()) rest.add("across " + r.nextInt(10) + " ;");
        if (r.nextBoolean()) rest.add("leans " + r.nextInt(101) + ";");
        if (r.nextBoolean()) rest.add("draw " + r.nextInt(1000) + ";");
        if (r.nextInt(3) > 0) rest.add("cools " + e(r, 1 + r.nextInt(r.nextInt(5) == 0 ? 32 : 8), 0) + ";");
        java.util.Collections.shuffle(rest, r);
        for (String line : rest) {
            b.append(line);
        }
        return b.toString();
    }

    /** A formula of about so many units. */
    private static String e(Random r, int units, int deep) {
        if (units <= 1) {
            String[] all = {"heat", "left", "minute", "seat", "guests", "" + r.nextInt(10), "" + r.nextInt(10000)};
            return all[r.nextInt(all.length)];
        }
        int left = 1 + r.nextInt(units - 1);
        String[] signs = {"+", "-", "*", "/", "%", "<", ">", "=", " and ", " or ", "/", "%"};
        int how = r.nextInt(9);
        if (how == 0 && deep < 8) {
            return "not " + e(r, units, deep + 1);
        }
        if (how < 4 && deep < 8) {
            return "(" + e(r, units - 1, deep + 1) + ")";
        }
        String sign = signs[r.nextInt(signs.length)];
        boolean relation = sign.equals("<") || sign.equals(">") || sign.equals("=");
        String l = e(r, left, deep + 1);
        String right = e(r, units - left, deep + 1);
        return relation && units > 2 ? "(" + l + ")" + sign + "(" + right + ")" : l + sign + right;
    }

    /** A text with one thing in it made otherwise. */
    private static String spoilt(Random r, String text) {
        if (text.isEmpty()) {
            return ";";
        }
        StringBuilder b = new StringBuilder(text);
        int at = r.nextInt(b.length());
        String[] bits = {"guest", "takes", "feud", "not ", "(", ")", "<", ";", "9", "12345", "a", "verylongname", "@",
            "\t", "" + (char) 233, "lady", "x", "heat", "\n", " ", "0", "boat 3;", "cools 1;", "and", "seat",
            "guest lady takes 1 slow 1;", "feud x lady;", "feud lady x;", "feud x x;", "feud boy nobody;"};
        switch (r.nextInt(4)) {
            case 0: b.deleteCharAt(at); break;
            case 1: b.setCharAt(at, (char) r.nextInt(256)); break;
            case 2: b.insert(at, bits[r.nextInt(bits.length)]); break;
            default: {
                int line = b.indexOf(";", at) + 1;
                b.insert(line, bits[r.nextInt(bits.length)]);
                break;
            }
        }
        return b.length() > 1580 ? b.substring(0, 1580) : b.toString();
    }
}
