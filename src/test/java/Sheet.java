import java.io.IOException;
import java.nio.file.Files;
import java.nio.file.Path;
import java.util.ArrayList;
import java.util.LinkedHashMap;
import java.util.List;
import java.util.Map;
import java.util.regex.Matcher;
import java.util.regex.Pattern;

/** The document as its sentences: which of them a test stands for, and which of them none does. */
final class Sheet {
    private final Map<String, String> sections = new LinkedHashMap<>();
    private final Map<String, boolean[]> tested = new LinkedHashMap<>();
    private String heading = "";
    private String sentence = "";
    private int wrong = 0;

    Sheet(Path document) throws IOException {
        Map<String, StringBuilder> read = new LinkedHashMap<>();
        String at = "";
        for (String line : Files.readAllLines(document)) {
            if (line.startsWith("## ")) at = line.substring(3).strip();
            else if (!line.startsWith("```")) read.computeIfAbsent(at, h -> new StringBuilder()).append(line).append('\n');
        }
        read.forEach((h, all) -> {
            // The line of a promise's method is the face's, which LanguageTest holds.
            String words = even(all.toString()).replaceFirst("^`[^`]*`: ", "");
            sections.put(h, words);
            tested.put(h, new boolean[words.length()]);
        });
    }

    private static String even(String words) {
        return words.replaceAll("\\s+", " ").strip();
    }

    /** The tests that follow are of a heading. */
    void under(String start) {
        heading = "";
        for (String h : sections.keySet()) {
            if (h.equals(start) || h.startsWith(start + ":")) heading = h;
        }
        if (heading.isEmpty()) tell("the document has no heading " + start);
    }

    /** The tests that follow are of a sentence, or of a part of one. */
    void says(String words) {
        sentence = words;
        String all = sections.getOrDefault(heading, "");
        int at = all.indexOf(even(words));
        if (at < 0) tell("the document doesn't say so");
        while (at >= 0) {
            for (int i = 0; i < even(words).length(); i++) tested.get(heading)[at + i] = true;
            at = all.indexOf(even(words), at + 1);
        }
    }

    void due(String call, long got, long want) {
        if (got != want) tell(call + " answered " + got + ", due is " + want);
    }

    private void tell(String what) {
        wrong++;
        if (wrong <= 200) System.out.println(heading + " | " + sentence + "\n  " + what);
    }

    /** Tells what the document says in the terms and promises without a test. */
    void whole() {
        sections.forEach((h, words) -> {
            if (h.equals("Terms") || h.startsWith("Promise ")) {
                for (String left : left(words, tested.get(h))) {
                    heading = h;
                    sentence = left;
                    tell("has no test");
                }
            }
        });
    }

    private static List<String> left(String words, boolean[] done) {
        StringBuilder left = new StringBuilder();
        for (int i = 0; i < words.length(); i++) left.append(done[i] ? '\n' : words.charAt(i));
        List<String> all = new ArrayList<>();
        Matcher m = Pattern.compile("[^\n]*[a-zA-Z0-9][^\n]*").matcher(left);
        while (m.find()) all.add(m.group().strip());
        return all;
    }

    int wrong() {
        return wrong;
    }
}
