import java.lang.reflect.InvocationTargetException;
import java.lang.reflect.Method;
import java.lang.reflect.Modifier;
import java.nio.charset.StandardCharsets;
import java.util.ArrayList;
import java.util.List;
import java.util.Random;

/**
 * No call ever throws, whatever it is given and whatever was called before: any numbers, any bytes, texts cut anywhere.
 * What must be so behind every call (seats, bits and amounts in their bounds) is looked at as well.
 */
final class AnyCallTest {
    private static final int OBJECTS = 3000;
    private static final int CALLS = 400;
    private static final String FULL = "guest a takes 3 slow 9;guest b takes 4 slow 1;guest c takes 5 slow 9;"
        + "guest d takes 20 slow 9;guest e takes 0 slow 2;guest f takes 5 slow 9;guest g takes 9 slow 9;"
        + "feud a b;feud b c;feud c d;feud d e;feud e f;feud f g;feud a c;feud a d;feud a e;feud a f;"
        + "boat 99;heat 99;across 9;leans 50;draw 1;cools (minute%seat<(left+heat)/(seat-2))-(not not seat=9999*9999*99/(0-1));";
    private static final int[] EDGES = {-1, 0, 1, 2, 6, 7, 9, 10, 19, 20, 21, 29, 30, 31, 32, 40, 41, 50, 51, 99, 100, 200, 201,
        999, 1000, 1001, 1599, 1600, 1601, -2, -7, -8, -32, Integer.MIN_VALUE, Integer.MIN_VALUE + 1, Integer.MAX_VALUE};

    public static void main(String[] args) throws IllegalAccessException {
        List<Method> face = new ArrayList<>();
        for (Method m : GravyRound.class.getDeclaredMethods()) {
            if (Modifier.isPublic(m.getModifiers())) {
                face.add(m);
            }
        }
        face.sort((a, b) -> a.getName().compareTo(b.getName()));
        for (int i = 0; i < OBJECTS && Due.wrongSoFar() < 20; i++) {
            one(face, new Random(i), i);
        }
        Due.end();
    }

    private static void one(List<Method> face, Random r, int run) throws IllegalAccessException {
        GravyRound x = new GravyRound();
        boolean anyBytes = r.nextInt(3) == 0;
        if (!anyBytes) {
            Due.put(x, FULL.substring(0, r.nextInt(4) == 0 ? r.nextInt(FULL.length()) : FULL.length()));
            if (r.nextInt(4) > 0) {
                x.dinner();
            }
        }
        // two that come often fill what has a limit: the tape, what is seen, the acts
        Method often = face.get(run % face.size());
        Method too = face.get(r.nextInt(face.size()));
        for (int i = 0; i < CALLS; i++) {
            int which = r.nextInt(4);
            Method m = which == 0 ? often : which == 1 ? too : face.get(r.nextInt(face.size()));
            Object[] with = new Object[m.getParameterCount()];
            for (int p = 0; p < with.length; p++) {
                with[p] = m.getParameterTypes()[p] == boolean.class ? (Object) r.nextBoolean() : (Object) number(r, m);
            }
            try {
                m.invoke(x, with);
            } catch (InvocationTargetException e) {
                Due.is(0, "run " + run + ": " + m.getName() + List.of(with) + " threw " + e.getCause(), 1, 0);
                return;
            }
        }
        sane(x, run);
    }

    /** Bytes of words for feed, else any number, one at some edge, or a small one. */
    private static int number(Random r, Method m) {
        if (m.getName().equals("feed") && r.nextBoolean()) {
            int at = r.nextInt(FULL.length() - 4);
            byte[] four = FULL.substring(at, at + 4).getBytes(StandardCharsets.ISO_8859_1);
            return four[0] << 24 | four[1] << 16 | four[2] << 8 | four[3];
        }
        switch (r.nextInt(8)) {
            case 0: return r.nextInt();
            case 1: return EDGES[r.nextInt(EDGES.length)];
            default: return r.nextInt(8);
        }
    }

    private static void within(int run, String what, int is, int least, int most) {
        Due.is(0, "run " + run + ": " + what + " is " + is + ", in its bounds (1: yes)", is >= least && is <= most ? 1 : 0, 1);
    }

    private static void sane(GravyRound x, int run) {
        int[] most = {7, 10, 99, 99, 6, 18, 400, 999, 40, 40, 30, 100000, 1600, 30, 7, 9, 100};
        for (int what = 0; what < most.length; what++) {
            within(run, "about(" + what + ")", x.about(what), what == 4 ? -1 : 0, most[what]);
        }
        within(run, "acts kept", x.about(8) + x.about(9), 0, 40);
        int met = 0;
        for (int s = 0; s < x.about(0); s++) {
            met |= 1 << x.seat(s);
            Due.is(7, "run " + run + ": the seat of who sits in seat " + s, x.guest(x.seat(s), 0), s);
        }
        Due.is(7, "run " + run + ": all have seats, as bits", met, (1 << x.about(0)) - 1);
    }
}
