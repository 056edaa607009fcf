import java.nio.charset.StandardCharsets;

/** What all tests share: a text put on the tape, and answers held against those that are due. */
final class Due {
    private static int wrong = 0;
    private static int asked = 0;

    private Due() { }

    static void is(int promise, String call, int got, int want) {
        asked++;
        if (got != want) {
            wrong++;
            System.out.println("promise " + promise + ": " + call + " answered " + got + ", due is " + want);
        }
    }

    static void is(int promise, String call, boolean got, boolean want) {
        is(promise, call, got ? 1 : 0, want ? 1 : 0);
    }

    /** What lies there, number by number, and nothing behind it. */
    static void lies(int promise, String call, GravyRound x, int... want) {
        is(promise, call + ", about(14)", x.about(14), want.length);
        for (int i = 0; i < want.length; i++) {
            is(promise, call + ", lies(" + i + ")", x.lies(i), want[i]);
        }
        is(40, call + ", lies(-1)", x.lies(-1), -2);
        is(40, call + ", lies(" + want.length + ")", x.lies(want.length), -2);
    }

    /** Puts a text behind what is on the tape. */
    static void put(GravyRound x, String text) {
        byte[] bytes = text.getBytes(StandardCharsets.ISO_8859_1);
        int had = x.about(12);
        int[] v = new int[5];
        for (int i = 0; i < bytes.length; i += 20) {
            for (int j = 0; j < 20; j++) {
                v[j / 4] = v[j / 4] << 8 | (i + j < bytes.length ? bytes[i + j] & 255 : 32);
            }
            x.feed(v[0], v[1], v[2], v[3], v[4]);
        }
        x.end(had + bytes.length);
    }

    /** A new object with a dinner that is sound. */
    static GravyRound dine(String text) {
        GravyRound x = new GravyRound();
        put(x, text);
        if (x.dinner() < 0) {
            is(4, "dinner() of [" + text + "], fault(0)", x.fault(0), 0);
        }
        return x;
    }

    static void minutes(GravyRound x, int many) {
        for (int i = 0; i < many; i++) {
            x.minute();
        }
    }

    static int wrongSoFar() {
        return wrong;
    }

    static int askedSoFar() {
        return asked;
    }

    static void end() {
        System.out.println(wrong == 0 ? asked + " answers are as due" : wrong + " of " + asked + " answers are not as due");
        if (wrong != 0) {
            System.exit(1);
        }
    }
}
