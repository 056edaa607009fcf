import java.io.IOException;
import java.lang.reflect.Method;
import java.nio.file.Files;
import java.nio.file.Path;
import java.util.List;
import java.util.regex.Matcher;
import java.util.regex.Pattern;

/**
 * Every boundary case that the document names has a test of its own: the words that tests are said to stand for (Says)
 * are the document's, and no words of the kind that name such a case are left without one.
 */
final class SentencesTest {
    private static final Path DOCUMENT = Path.of("../shared/DOC.md");
    private static final List<Class<?>> TESTS =
        List.of(TextEdgeTest.class, MealEdgeTest.class, AdviceEdgeTest.class, SightEdgeTest.class);
    /** Refusals, ranges, what is so at first, at most, at least, of like ones, and what stands in brackets behind a promise. */
    private static final Pattern CASES = Pattern.compile("(NONE|-2|false)\\b[^.;:)]*|doing nothing|all stays|nothing comes"
        + "|(at most|at least|at first|at the most|at once)|of like ones[^.;:)]*|\\d+ \\.\\. \\d+|\\d+-fold[^;]*modulo [0-9]+,[0-9]+"
        + "|\\(-?\\d+: [^)]*\\)|without GUESTS|when OVER|by 0: 0|wrapping|more than [0-9,]+|above [0-9,]+|if it is OVER");
    private static int wrong = 0;

    public static void main(String[] args) throws IOException {
        if (!Files.isReadable(DOCUMENT)) {
            System.out.println("there is no document at " + DOCUMENT + ": its words are not looked at");
            return;
        }
        String text = Files.readString(DOCUMENT).replaceAll("```(text)?", " ").replaceAll("\\s+", " ");
        int terms = text.indexOf("## Terms");
        int first = text.indexOf("## Promise 1:");
        part(0, text.substring(terms, first));
        for (int promise = 1; promise <= 49; promise++) {
            int from = text.indexOf("## Promise " + promise + ":");
            int to = text.indexOf("## ", from + 3);
            part(promise, text.substring(from, to).replaceFirst("^[^`]*`[^`]*`: ", ""));
        }
        System.out.println(wrong == 0 ? "each boundary case has its test" : wrong + " are wrong");
        if (wrong != 0) {
            System.exit(1);
        }
    }

    /** One promise, or the terms: marks the words that tests stand for, then looks for those that none stands for. */
    private static void part(int promise, String text) {
        boolean[] tested = new boolean[text.length()];
        int tests = 0;
        for (Class<?> c : TESTS) {
            for (Method m : Edges.testsOf(c)) {
                Says says = m.getAnnotation(Says.class);
                if (says.promise() == promise) {
                    tests++;
                    for (String words : says.value()) {
                        mark(text, words, tested, m);
                    }
                }
            }
        }
        tell(tests > 0, "promise " + promise + " has no test of a boundary case");
        Matcher m = CASES.matcher(text);
        while (m.find()) {
            boolean all = true;
            for (int i = m.start(); i < m.end(); i++) {
                all &= tested[i];
            }
            int from = Math.max(0, m.start() - 30);
            tell(all, "promise " + promise + ": no test for \"" + text.substring(from, m.end()) + "\"");
        }
    }

    private static void mark(String text, String words, boolean[] tested, Method by) {
        int at = text.indexOf(words);
        tell(at >= 0, by + ": the document does not say \"" + words + "\"");
        if (at >= 0) {
            java.util.Arrays.fill(tested, at, at + words.length(), true);
        }
    }

    private static void tell(boolean right, String what) {
        if (!right) {
            wrong++;
            System.out.println(what);
        }
    }
}
