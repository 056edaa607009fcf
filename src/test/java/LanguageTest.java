import java.io.IOException;
import java.lang.reflect.Constructor;
import java.lang.reflect.Field;
import java.lang.reflect.Method;
import java.lang.reflect.Modifier;
import java.nio.file.Files;
import java.nio.file.Path;
import java.util.ArrayList;
import java.util.Arrays;
import java.util.List;
import java.util.TreeSet;
import java.util.regex.Matcher;
import java.util.regex.Pattern;

/** The rules of LANGUAGE.md that a program can look at: the face, what may not stand in the source, the sizes. */
final class LanguageTest {
    private static final String FACE = "feed(int,int,int,int,int)int end(int)int dinner()int fault(int)int guest(int,int)int "
        + "seat(int)int feud(int,int)int minute()int change(int,int)int makeUp(int)int fallOut(int)int pour(int)int "
        + "warm(int)int undo()boolean redo()boolean round()int stands(int)int will(int,int,int)int soonest()int "
        + "warmest()int peace()int treaty(int,int)int leave(int)int tables()int limit()int best(int,int)int skin(int)int "
        + "greed(int,int)int clan(int)int clans()int blame(int)int sourest()int luckiest()int lacking()int hungry()int "
        + "slowest(int)int law(int)int odds(int,int)int lies(int)int seen(int,int,boolean)int untell(int)boolean "
        + "later(int)int fits(int)int sure(int,int)int ask(int,int)int image(int)int back(int)int about(int)int";
    private static int wrong = 0;

    public static void main(String[] args) throws Exception {
        face();
        List<Class<?>> all = new ArrayList<>(Arrays.asList(GravyRound.class.getDeclaredClasses()));
        all.add(GravyRound.class);
        rule(11, all.size() <= 13, "the file has " + all.size() + " classes");
        for (Class<?> c : all) {
            members(c);
        }
        source(Files.readString(Path.of("src/main/java/GravyRound.java")));
        System.out.println(wrong == 0 ? "the language is kept" : wrong + " rules are broken");
        if (wrong != 0) {
            System.exit(1);
        }
    }

    private static void rule(int number, boolean kept, String what) {
        if (!kept) {
            wrong++;
            System.out.println("rule " + number + ": " + what);
        }
    }

    /** The methods of the document's own listing, in the form that FACE has. */
    private static TreeSet<String> faceOf(String text) {
        TreeSet<String> all = new TreeSet<>();
        Matcher m = Pattern.compile("(?m)^    public (int|boolean) (\\w+)\\(([^)]*)\\);").matcher(text);
        while (m.find()) {
            all.add(m.group(2) + "(" + m.group(3).replaceAll("(\\w+) \\w+", "$1").replace(" ", "") + ")" + m.group(1));
        }
        return all;
    }

    private static void face() throws IOException {
        TreeSet<String> has = new TreeSet<>();
        for (Method m : GravyRound.class.getDeclaredMethods()) {
            if (Modifier.isPublic(m.getModifiers())) {
                has.add(signature(m));
            } else {
                rule(1, Modifier.isPrivate(m.getModifiers()), m + " is neither public nor private");
            }
        }
        TreeSet<String> due = new TreeSet<>(Arrays.asList(FACE.split(" ")));
        rule(1, has.equals(due), "the face is " + has);
        Path document = Path.of("../shared/DOC.md");
        if (Files.isReadable(document)) {
            rule(1, due.equals(faceOf(Files.readString(document))), "the document's face is " + faceOf(Files.readString(document)));
        }
        int mods = GravyRound.class.getModifiers();
        rule(1, Modifier.isPublic(mods) && Modifier.isFinal(mods), "the class is public and final");
        for (Constructor<?> c : GravyRound.class.getDeclaredConstructors()) {
            rule(1, Modifier.isPublic(c.getModifiers()) && c.getParameterCount() == 0, c.toString());
        }
        for (Field f : GravyRound.class.getDeclaredFields()) {
            rule(1, f.getName().equals("NONE") == Modifier.isPublic(f.getModifiers()), f.toString());
            rule(1, f.getName().equals("NONE") || Modifier.isPrivate(f.getModifiers()), f.toString());
        }
        for (Class<?> c : GravyRound.class.getDeclaredClasses()) {
            rule(1, !Modifier.isPublic(c.getModifiers()) && Modifier.isStatic(c.getModifiers()), c.toString());
        }
    }

    private static String signature(Method m) {
        List<String> with = new ArrayList<>();
        for (Class<?> p : m.getParameterTypes()) {
            with.add(p.getName());
        }
        return m.getName() + "(" + String.join(",", with) + ")" + m.getReturnType().getName();
    }

    private static void members(Class<?> c) {
        int fields = 0;
        for (Field f : c.getDeclaredFields()) {
            if (Modifier.isStatic(f.getModifiers())) {
                rule(5, Modifier.isFinal(f.getModifiers()), f.toString());
            } else {
                fields++;
            }
        }
        rule(11, fields <= 20, c + " has " + fields + " fields");
        for (Method m : c.getDeclaredMethods()) {
            rule(11, m.getParameterCount() <= 7, m.toString());
            boolean facial = Modifier.isPublic(m.getModifiers());
            rule(1, facial || !(" " + FACE).contains(" " + m.getName() + "("), m + " bears a public name");
        }
    }

    private static void source(String whole) {
        String text = whole.replaceAll("(?s)/\\*.*?\\*/", "").replaceAll("//[^\n]*", "");
        String code = text.replaceAll("\"[^\"\n]*\"", "\"\"").replaceAll("'[^'\n]*'", "' '");
        for (String word : "throw throws try catch finally synchronized assert import package instanceof double float".split(" ")) {
            rule(6, !code.matches("(?s).*\\b" + word + "\\b.*"), "'" + word + "' stands in the source");
        }
        for (String sign : new String[] {"->", "::", "Exact(", "Thread", "Random", "equals(", "hashCode", "toString"}) {
            rule(4, !code.contains(sign), "'" + sign + "' stands in the source");
        }
        rule(4, !code.replace("System.arraycopy(", "").contains("System."), "System is used for more than arraycopy");
        rule(10, !code.contains("\" +") && !code.contains("+ \""), "texts are joined by +");
        int longest = 0;
        int begun = -1;
        String[] lines = whole.split("\n");
        for (int i = 0; i < lines.length; i++) {
            if (lines[i].matches("( {4}| {8})[A-Za-z].*\\) \\{")) {
                begun = i;
            } else if (begun >= 0 && lines[i].matches("( {4}| {8})\\}")) {
                longest = Math.max(longest, i - begun);
                begun = -1;
            }
        }
        rule(11, longest > 10 && longest <= 60, "the longest method has " + longest + " lines");
    }
}
