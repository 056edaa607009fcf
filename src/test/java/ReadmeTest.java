import java.io.IOException;
import java.lang.reflect.InvocationTargetException;
import java.lang.reflect.Method;
import java.lang.reflect.Modifier;
import java.nio.file.Files;
import java.nio.file.Path;
import java.util.regex.Matcher;
import java.util.regex.Pattern;

/** README.md says how to use the class: each call on that page answers what the page says, and no call is left out. */
final class ReadmeTest {
    private static final Pattern DINNER = Pattern.compile("tell\\(x, (\"[^;]*;.*?)\\);\n", Pattern.DOTALL);
    private static final Pattern TEXT = Pattern.compile("\"([^\"]*)\"");
    private static final Pattern CALL = Pattern.compile("^x\\.(\\w+)\\(([^)]*)\\); +// (-?\\d+|true|false)\\b", Pattern.MULTILINE);

    public static void main(String[] args) throws IOException, IllegalAccessException, InvocationTargetException {
        String page = Files.readString(Path.of("README.md"));
        GravyRound x = Due.dine(dinner(page));
        Matcher m = CALL.matcher(page);
        int calls = 0;
        while (m.find()) {
            Due.is(0, "README: x." + m.group(1) + "(" + m.group(2) + ")", call(x, m.group(1), m.group(2)), number(m.group(3)));
            calls++;
        }
        Due.is(0, "README has calls (1: yes)", calls > 20 ? 1 : 0, 1);
        for (Method method : GravyRound.class.getDeclaredMethods()) {
            if (Modifier.isPublic(method.getModifiers())) {
                Due.is(0, "README names " + method.getName() + " (1: yes)", page.contains("`" + method.getName() + "`") ? 1 : 0, 1);
            }
        }
        Due.end();
    }

    private static String dinner(String page) {
        Matcher told = DINNER.matcher(page);
        StringBuilder text = new StringBuilder();
        if (told.find()) {
            Matcher part = TEXT.matcher(told.group(1));
            while (part.find()) {
                text.append(part.group(1));
            }
        }
        return text.toString();
    }

    private static int call(GravyRound x, String name, String with) throws IllegalAccessException, InvocationTargetException {
        String[] given = with.isEmpty() ? new String[0] : with.split(", ");
        for (Method m : GravyRound.class.getDeclaredMethods()) {
            if (m.getName().equals(name) && Modifier.isPublic(m.getModifiers()) && m.getParameterCount() == given.length) {
                Object[] all = new Object[given.length];
                for (int i = 0; i < all.length; i++) {
                    all[i] = m.getParameterTypes()[i] == boolean.class ? (Object) Boolean.valueOf(given[i]) : (Object) Integer.valueOf(given[i]);
                }
                return number(String.valueOf(m.invoke(x, all)));
            }
        }
        throw new IllegalStateException("there is no call " + name + " with " + given.length);
    }

    private static int number(String answer) {
        return answer.equals("true") ? 1 : answer.equals("false") ? 0 : Integer.parseInt(answer);
    }
}
