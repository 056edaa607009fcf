import java.lang.reflect.InvocationTargetException;
import java.lang.reflect.Method;
import java.util.ArrayList;
import java.util.List;

/** Runs the tests of single sentences, and has what they share. */
final class Edges {
    private Edges() { }

    static List<Method> testsOf(Class<?> tests) {
        List<Method> all = new ArrayList<>();
        for (Method m : tests.getDeclaredMethods()) {
            if (m.isAnnotationPresent(Says.class)) {
                m.setAccessible(true);
                all.add(m);
            }
        }
        all.sort((a, b) -> a.getName().compareTo(b.getName()));
        return all;
    }

    /** Each test for itself: what one throws doesn't keep the others from being run. */
    static void run(Class<?> tests) throws IllegalAccessException {
        int sentences = 0;
        for (Method m : testsOf(tests)) {
            int before = Due.wrongSoFar();
            int asked = Due.askedSoFar();
            try {
                m.invoke(null);
            } catch (InvocationTargetException e) {
                Due.is(m.getAnnotation(Says.class).promise(), m.getName() + "() threw " + e.getCause(), 1, 0);
            }
            if (Due.askedSoFar() == asked) {
                Due.is(0, m.getName() + "() asks for nothing", 1, 0);
            }
            if (Due.wrongSoFar() > before) {
                System.out.println("  so it does not hold: " + String.join(" | ", m.getAnnotation(Says.class).value()));
            }
            sentences++;
        }
        System.out.println(sentences + " tests of single sentences");
        Due.end();
    }

    /** Numbers that are not in least .. most, near to it, far from it, and such as would fall into it by a mask. */
    static int[] beyond(int least, int most) {
        int[] all = {least - 1, most + 1, least - 2, most + 2, Integer.MIN_VALUE, Integer.MIN_VALUE + 1, Integer.MAX_VALUE,
            Integer.MAX_VALUE - 1, least + 32, least - 32, least + 64, least + 256, least - 256, least + 65536, least + (1 << 30)};
        int many = 0;
        for (int n : all) {
            if (n < least || n > most) {
                all[many++] = n;
            }
        }
        return java.util.Arrays.copyOf(all, many);
    }

    /** All that can be asked for and is held, as one text: what was refused must leave this as it is. */
    static String all(GravyRound x) {
        StringBuilder b = new StringBuilder();
        for (int i = 0; i <= 16; i++) {
            b.append(x.about(i)).append(i < 16 ? "," : " guests ");
        }
        for (int g = 0; g < x.about(0); g++) {
            for (int what = 0; what <= 6; what++) {
                b.append(x.guest(g, what)).append(",");
            }
            b.append(x.seat(g)).append(";");
        }
        for (int f = 0; f < x.about(1); f++) {
            b.append(" ").append(x.feud(f, 0)).append("-").append(x.feud(f, 1)).append(x.feud(f, 2) == 1 ? " ended" : "");
        }
        b.append(" lies ");
        for (int i = 0; i < x.about(14); i++) {
            b.append(x.lies(i)).append(",");
        }
        return b.append(" fault ").append(x.fault(0)).append(",").append(x.fault(1)).append(" fits ").append(x.fits(x.about(11)))
            .toString();
    }

    static void same(int promise, String call, GravyRound x, String before) {
        String now = all(x);
        if (!now.equals(before)) {
            System.out.println("was " + before + "\n is " + now);
        }
        Due.is(promise, call + " leaves all as it was (1: yes)", now.equals(before) ? 1 : 0, 1);
    }

    /** A text without a fault. */
    static GravyRound sound(String text, int guests) {
        GravyRound x = new GravyRound();
        Due.put(x, text);
        Due.is(4, "dinner() of [" + text + "]", x.dinner(), guests);
        Due.is(5, "fault(0) of [" + text + "]", x.fault(0), 0);
        Due.is(5, "fault(1) of [" + text + "]", x.fault(1), -1);
        return x;
    }

    static void faulty(String text, int kind, int place) {
        GravyRound x = new GravyRound();
        Due.put(x, text);
        Due.is(4, "dinner() of [" + text + "]", x.dinner(), -1);
        Due.is(5, "fault(0) of [" + text + "]", x.fault(0), kind);
        Due.is(5, "fault(1) of [" + text + "]", x.fault(1), place);
    }

    /** A fault at the place of the mark, which is taken out. */
    static void faultyAt(String text, int kind) {
        int place = text.indexOf('!');
        faulty(text.substring(0, place) + text.substring(place + 1), kind, place);
    }

    /** Guests a, b, c, .. who take 1 each and are so slow. */
    static String guests(int... slow) {
        StringBuilder b = new StringBuilder();
        for (int g = 0; g < slow.length; g++) {
            b.append("guest ").append((char) ('a' + g)).append(" takes 1 slow ").append(slow[g]).append(";");
        }
        return b.toString();
    }

    /** Guests a, b, c, .. who are slow by 1 and take so much each. */
    static String takers(int... takes) {
        StringBuilder b = new StringBuilder();
        for (int g = 0; g < takes.length; g++) {
            b.append("guest ").append((char) ('a' + g)).append(" takes ").append(takes[g]).append(" slow 1;");
        }
        return b.toString();
    }

    /** Feuds of those whose letters stand two by two: "ab bc". */
    static String feuds(String pairs) {
        StringBuilder b = new StringBuilder();
        for (String pair : pairs.split(" ")) {
            b.append("feud ").append(pair.charAt(0)).append(" ").append(pair.charAt(1)).append(";");
        }
        return b.toString();
    }
}
