import java.lang.reflect.Constructor;
import java.lang.reflect.Field;
import java.lang.reflect.Method;
import java.lang.reflect.Modifier;
import java.nio.charset.StandardCharsets;
import java.nio.file.Files;
import java.nio.file.Path;
import java.util.ArrayList;
import java.util.Arrays;
import java.util.List;
import java.util.Set;
import java.util.TreeSet;
import java.util.regex.Matcher;
import java.util.regex.Pattern;

/** The face of the class as the document has it, and the words that LANGUAGE.md leaves out; RulesTest has its rules. */
public final class LanguageTest {
    private static int wrong = 0;

    private LanguageTest() { }

    private static void must(boolean is, String what) {
        if (!is) {
            wrong++;
            System.out.println("not so: " + what);
        }
    }

    public static void main(String[] args) throws Exception {
        String document = Files.readString(Path.of(System.getProperty("document", "../shared/DOC.md")));
        face(document);
        String code = bare(Files.readString(Path.of(System.getProperty("source")), StandardCharsets.UTF_8));
        words(code);
        System.out.println(wrong == 0 ? "the language is kept" : wrong + " rules are not kept");
        if (wrong != 0) System.exit(1);
    }

    /** The document's methods, as reflection tells them; those of the face, or those of the promises. */
    private static TreeSet<String> methods(String document, String line) {
        TreeSet<String> all = new TreeSet<>();
        Matcher m = Pattern.compile("(?m)" + line).matcher(document);
        while (m.find()) all.add(m.group(1) + "(" + m.group(2).replaceAll(" \\w+(,|$)", "$1") + ")");
        return all;
    }

    private static void face(String document) {
        Class<?> c = MorningCoin.class;
        must(Modifier.isFinal(c.getModifiers()) && Modifier.isPublic(c.getModifiers()), "the class is public and final");
        TreeSet<String> open = new TreeSet<>();
        Set<String> hidden = new TreeSet<>();
        for (Method m : c.getDeclaredMethods()) {
            String types = Arrays.toString(m.getParameterTypes()).replaceAll("[\\[\\]]", "");
            if (Modifier.isPublic(m.getModifiers())) open.add(m.getReturnType() + " " + m.getName() + "(" + types + ")");
            else hidden.add(m.getName());
            must(Modifier.isPublic(m.getModifiers()) || Modifier.isPrivate(m.getModifiers()), m + " is public or private");
        }
        TreeSet<String> due = methods(document, "^ +public (\\w+ \\w+)\\((.*)\\);$");
        must(due.size() == 28 && open.equals(due), "the public methods are the face's: " + open);
        must(open.equals(methods(document, "^`(\\w+ \\w+)\\((.*)\\)`: ")), "each promise's method is of the face");
        must(document.contains("public static final int NONE = -1;") && MorningCoin.NONE == -1, "the constant");
        for (Method m : c.getDeclaredMethods()) {
            must(!Modifier.isPublic(m.getModifiers()) || !hidden.contains(m.getName()), m + " has its name alone");
        }
        List<String> fields = new ArrayList<>();
        for (Field f : c.getDeclaredFields()) {
            if (!Modifier.isPrivate(f.getModifiers())) fields.add(f.toString());
        }
        must(fields.toString().equals("[public static final int MorningCoin.NONE]"), "the one open field: " + fields);
        Constructor<?>[] made = c.getDeclaredConstructors();
        must(made.length == 1 && made[0].getParameterCount() == 0 && Modifier.isPublic(made[0].getModifiers()),
            "one public constructor");
    }

    /** The source without comments and texts. */
    private static String bare(String source) {
        return source.replaceAll("(?s)/\\*.*?\\*/", "").replaceAll("//[^\n]*", "").replaceAll("\"[^\"\n]*\"", "\"\"");
    }

    private static void words(String code) {
        String[] no = {"throw", "throws", "try", "catch", "synchronized", "assert", "volatile", "native", "Object",
            "equals", "hashCode", "toString", "Random", "System.out", "currentTimeMillis", "nanoTime", "Thread"};
        for (String word : no) {
            must(!Pattern.compile("\\b" + Pattern.quote(word) + "\\b").matcher(code).find(), "no " + word);
        }
        must(!code.contains("->") && !code.contains("::"), "no lambda, no method reference");
        must(!Pattern.compile("\\w+Exact\\b").matcher(code).find(), "no Exact");
        Matcher m = Pattern.compile("import ([^;]*);").matcher(code);
        while (m.find()) must(m.group(1).equals("java.util.Arrays"), "no import but of Arrays: " + m.group(1));
        must(!Pattern.compile("(?m)^package").matcher(code).find(), "no package");
    }
}
