import java.io.IOException;
import java.nio.file.Files;
import java.nio.file.Path;
import java.util.LinkedHashMap;
import java.util.Map;
import java.util.TreeSet;
import java.util.regex.Matcher;
import java.util.regex.Pattern;

/**
 * The sentences of ../shared/DOC.md. A test names the sentence that it tests; what no test of a class names, of the
 * parts that the class is about, is told as a fault. The parts are "What it is", "The public face", the paragraphs of
 * the description by their first words, "The constants", the promises by their numbers, and their heads as "head N".
 */
final class Doc {
    private static final Map<String, String> PARTS = new LinkedHashMap<>();
    // the same texts, with blanks in place of what has been named
    private static final Map<String, StringBuilder> LEFT = new LinkedHashMap<>();
    private static String label = "";

    private Doc() {
    }

    static {
        try {
            split(Files.readString(Path.of("../shared/DOC.md")));
        } catch (IOException e) {
            throw new IllegalStateException("../shared/DOC.md can't be read", e);
        }
    }

    /** What is compared from now on is about this sentence, or these; it stands so in the document. */
    static void says(String part, String sentence) {
        label = part + ": \"" + sentence + "\" ";
        String text = PARTS.getOrDefault(part, "");
        int start = text.indexOf(sentence);
        Check.holds(label + "is in the document", start >= 0);
        for (int i = Math.max(start, 0); start >= 0 && i < start + sentence.length(); i++) {
            LEFT.get(part).setCharAt(i, ' ');
        }
    }

    /** The text of a part, with single blanks between its words. */
    static String part(String name) {
        return PARTS.getOrDefault(name, "");
    }

    static void due(String what, long got, long want) {
        Check.due(label + what, got, want);
    }

    static void due(String what, String got, String want) {
        Check.due(label + what, got, want);
    }

    static void holds(String what, boolean held) {
        Check.holds(label + what, held);
    }

    /** Ends the test; no word of these parts may be left over. */
    static void finish(String... parts) {
        for (String part : parts) {
            Check.holds("the document has a part " + part, PARTS.containsKey(part));
            String left = LEFT.getOrDefault(part, new StringBuilder()).toString();
            String words = left.replaceAll("[^A-Za-z0-9_]+", " ").trim();
            Check.due("what no test names of part " + part, words, "");
        }
        Check.finish();
    }

    /** The promises from first to last, for finish(). */
    static String[] promises(int first, int last) {
        String[] numbers = new String[last - first + 1];
        for (int i = 0; i < numbers.length; i++) {
            numbers[i] = Integer.toString(first + i);
        }
        return numbers;
    }

    // ---- the parts

    private static void split(String all) {
        put("What it is", between(all, "## What it is\n", "\n## The public face"));
        put("The public face", between(all, "```java\n", "```\n\n## Description"));
        String description = between(all, "## Description\n", "\n## Promise 1:");
        put("The constants", description.substring(description.indexOf("The constants:")));
        for (String paragraph : description.substring(0, description.indexOf("The constants:")).split("\n\n")) {
            String text = paragraph.trim();
            int end = text.indexOf(". ");
            if (end >= 0) {
                put(text.substring(0, end), text.substring(end + 2));
            }
        }
        Matcher head = Pattern.compile("## Promise ([0-9]+): .*\n\n`(.*)`\n([^#]*)").matcher(all);
        while (head.find()) {
            put("head " + head.group(1), head.group(2));
            put(head.group(1), head.group(3).replaceAll("(?m)^---- .*$", ""));
        }
        Check.due("the parts of the document", new TreeSet<>(PARTS.keySet()).size(), 3 + 8 + 2 * 58);
    }

    private static String between(String all, String start, String end) {
        return all.substring(all.indexOf(start) + start.length(), all.indexOf(end));
    }

    private static void put(String part, String text) {
        String line = text.replaceAll("\\s+", " ").trim();
        PARTS.put(part, line);
        LEFT.put(part, new StringBuilder(line));
    }
}
