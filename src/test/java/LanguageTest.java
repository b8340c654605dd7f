import java.lang.reflect.Constructor;
import java.lang.reflect.Field;
import java.lang.reflect.Method;
import java.lang.reflect.Modifier;
import java.nio.charset.StandardCharsets;
import java.nio.file.Files;
import java.nio.file.Path;
import java.util.ArrayList;
import java.util.Arrays;
import java.util.List;
import java.util.Set;
import java.util.TreeSet;
import java.util.regex.Matcher;
import java.util.regex.Pattern;

/** The face of the class, and those rules of LANGUAGE.md that can be seen without reading it whole. */
public final class LanguageTest {
    private static final String FACE = """
        boolean answer(int, int, int)
        boolean costs(int)
        boolean had(int, boolean)
        int about(int)
        int again()
        int answered(int, int)
        int back(int, int)
        int changed(int, int, boolean)
        int child(int, int, int, boolean, boolean)
        int course(int, int, int, int)
        int deals(int, int)
        int difference(int, int, int)
        int end(int)
        int fault(int)
        int feed(int, int, int, int, int)
        int few(int, int, int, int)
        int gap(int, int)
        int image()
        int land(int, boolean)
        int link(int, int)
        int live(int, int, int)
        int lost(int, boolean)
        int odds(int, int, int)
        int paid(int, int, int)
        int step(int, int)
        int text()
        int thing(int, int, boolean, int)
        int ways(int, int, int)
        """;
    private static int wrong = 0;

    private LanguageTest() { }

    private static void must(boolean is, String what) {
        if (!is) {
            wrong++;
            System.out.println("not so: " + what);
        }
    }

    public static void main(String[] args) throws Exception {
        face();
        insides();
        String code = bare(Files.readString(Path.of(System.getProperty("source")), StandardCharsets.UTF_8));
        words(code);
        lengths(code);
        System.out.println(wrong == 0 ? "the language is kept" : wrong + " rules are not kept");
        if (wrong != 0) System.exit(1);
    }

    private static void face() {
        Class<?> c = MorningCoin.class;
        must(Modifier.isFinal(c.getModifiers()) && Modifier.isPublic(c.getModifiers()), "the class is public and final");
        TreeSet<String> open = new TreeSet<>();
        Set<String> hidden = new TreeSet<>();
        for (Method m : c.getDeclaredMethods()) {
            String types = Arrays.toString(m.getParameterTypes()).replaceAll("[\\[\\]]", "");
            if (Modifier.isPublic(m.getModifiers())) open.add(m.getReturnType() + " " + m.getName() + "(" + types + ")");
            else hidden.add(m.getName());
            must(Modifier.isPublic(m.getModifiers()) || Modifier.isPrivate(m.getModifiers()), m + " is public or private");
        }
        must(String.join("\n", open).equals(FACE.strip()), "the public methods are the document's: " + open);
        for (Method m : c.getDeclaredMethods()) {
            must(!Modifier.isPublic(m.getModifiers()) || !hidden.contains(m.getName()), m + " has its name alone");
        }
        List<String> fields = new ArrayList<>();
        for (Field f : c.getDeclaredFields()) {
            if (!Modifier.isPrivate(f.getModifiers())) fields.add(f.toString());
        }
        must(fields.toString().equals("[public static final int MorningCoin.NONE]"), "the one open field: " + fields);
        Constructor<?>[] made = c.getDeclaredConstructors();
        must(made.length == 1 && made[0].getParameterCount() == 0 && Modifier.isPublic(made[0].getModifiers()),
            "one public constructor");
    }

    private static void insides() {
        Class<?>[] inside = MorningCoin.class.getDeclaredClasses();
        must(inside.length <= 11, "some twelve classes: " + inside.length);
        for (Class<?> c : inside) must(Modifier.isStatic(c.getModifiers()), c + " is static");
        List<Class<?>> all = new ArrayList<>(List.of(inside));
        all.add(MorningCoin.class);
        for (Class<?> c : all) {
            int own = 0;
            for (Field f : c.getDeclaredFields()) {
                if (!Modifier.isStatic(f.getModifiers())) own++;
                else must(Modifier.isFinal(f.getModifiers()), f + " is final");
            }
            must(own <= 20, c + " has some twenty fields: " + own);
            for (Method m : c.getDeclaredMethods()) must(m.getParameterCount() <= 7, m + " has seven parameters at most");
        }
    }

    /** The source without comments and texts. */
    private static String bare(String source) {
        return source.replaceAll("(?s)/\\*.*?\\*/", "").replaceAll("//[^\n]*", "").replaceAll("\"[^\"\n]*\"", "\"\"");
    }

    private static void words(String code) {
        String[] no = {"throw", "throws", "try", "catch", "synchronized", "assert", "volatile", "native", "Object",
            "equals", "hashCode", "toString", "Random", "System.out", "currentTimeMillis", "nanoTime", "Thread"};
        for (String word : no) {
            must(!Pattern.compile("\\b" + Pattern.quote(word) + "\\b").matcher(code).find(), "no " + word);
        }
        must(!code.contains("->") && !code.contains("::"), "no lambda, no method reference");
        must(!Pattern.compile("\\w+Exact\\b").matcher(code).find(), "no Exact");
        Matcher m = Pattern.compile("import ([^;]*);").matcher(code);
        while (m.find()) must(m.group(1).equals("java.util.Arrays"), "no import but of Arrays: " + m.group(1));
        must(!Pattern.compile("(?m)^package").matcher(code).find(), "no package");
    }

    private static void lengths(String code) {
        String[] lines = code.split("\n", -1);
        for (int i = 0; i < lines.length; i++) {
            Matcher m = Pattern.compile("( {4}| {8})[a-zA-Z][^=]*\\) \\{").matcher(lines[i]);
            if (!m.matches()) continue;
            int end = i;
            while (end < lines.length && !lines[end].equals(m.group(1) + "}")) end++;
            must(end - i < 60, "a method of sixty lines at most: " + lines[i].strip());
        }
    }
}
