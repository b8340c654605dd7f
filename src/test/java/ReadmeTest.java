import java.io.IOException;
import java.lang.reflect.Method;
import java.nio.file.Files;
import java.nio.file.Path;
import java.util.Arrays;
import java.util.TreeSet;
import java.util.regex.Matcher;
import java.util.regex.Pattern;

/** The calls on README.md's page answer as it says, and every method is on it. */
public final class ReadmeTest {
    private static final Pattern CALL = Pattern.compile("(x\\.)?(\\w+)\\((.*)\\); +// (-?\\d+|true|false)\\b.*");
    private static int wrong = 0;

    private ReadmeTest() { }

    private static void tellWrong(String what) {
        wrong++;
        System.out.println(what);
    }

    public static void main(String[] args) throws Exception {
        Path root = Path.of(System.getProperty("root", "."));
        String page = Files.readString(root.resolve("README.md"));
        calls(page);
        helper(page, Files.readString(root.resolve("src/test/java/ReadmeTest.java")));
        tests(page, root);
        System.out.println(wrong == 0 ? "README.md is as it says" : wrong + " lines of README.md aren't so");
        if (wrong != 0) System.exit(1);
    }

    private static void calls(String page) throws ReflectiveOperationException {
        MorningCoin x = new MorningCoin();
        TreeSet<String> left = new TreeSet<>();
        for (Method m : MorningCoin.class.getDeclaredMethods()) {
            if (java.lang.reflect.Modifier.isPublic(m.getModifiers())) left.add(m.getName());
        }
        for (String line : page.split("\n")) {
            Matcher m = CALL.matcher(line);
            if (m.matches()) {
                String got = answer(x, m.group(2), m.group(3));
                if (!got.equals(m.group(4))) tellWrong(line + " answered " + got);
            } else if (line.startsWith("x.") || line.startsWith("tell(")) {
                tellWrong(line + " can't be read");
            }
            left.removeIf(name -> line.contains("x." + name + "("));
        }
        if (!left.isEmpty()) tellWrong("README.md doesn't call " + left);
    }

    private static String answer(MorningCoin x, String name, String given) throws ReflectiveOperationException {
        if (name.equals("tell")) return "" + tell(x, given.replaceAll("^x, \"(.*)\"$", "$1"));
        for (Method m : MorningCoin.class.getDeclaredMethods()) {
            if (m.getName().equals(name)) return "" + m.invoke(x, given(given));
        }
        return "nothing";
    }

    private static Object[] given(String given) {
        if (given.isEmpty()) return new Object[0];
        return Arrays.stream(given.split(", ")).map(ReadmeTest::one).toArray();
    }

    private static Object one(String word) {
        if (word.equals("true") || word.equals("false")) return word.equals("true");
        return word.equals("MorningCoin.NONE") ? MorningCoin.NONE : Integer.parseInt(word);
    }

    static int tell(MorningCoin x, String words) {
        for (int at = 0; at < words.length(); at += 20) {
            int[] five = new int[5];
            for (int i = 0; i < 20; i++) {
                int sign = at + i < words.length() ? words.charAt(at + i) : ' ';
                five[i / 4] = five[i / 4] << 8 | sign;
            }
            x.feed(five[0], five[1], five[2], five[3], five[4]);
        }
        x.end(words.length());
        return x.text();
    }

    /** README.md's tell is the one above, sign by sign. */
    private static void helper(String page, String source) {
        int from = source.indexOf("    static int tell(");
        String own = source.substring(from, source.indexOf("\n    }\n", from) + 6).replaceAll("(?m)^ {4}", "");
        if (!page.contains(own)) tellWrong("README.md has another tell");
        Matcher m = Pattern.compile("\\| `((?:many|near|value|together|apart|over|found) .*;)` \\|").matcher(page);
        int clauses = 0;
        while (m.find()) {
            clauses++;
            if (tell(new MorningCoin(), m.group(1)) != 0) tellWrong(m.group(1) + " has a fault");
        }
        if (clauses != 7) tellWrong("README.md has " + clauses + " clauses");
    }

    private static void tests(String page, Path root) throws IOException {
        try (var files = Files.list(root.resolve("src/test/java"))) {
            for (String name : files.map(f -> f.getFileName().toString()).filter(f -> f.endsWith("Test.java")).toList()) {
                if (!page.contains("`" + name.replace(".java", "") + "`")) tellWrong("README.md doesn't name " + name);
            }
        }
    }
}
