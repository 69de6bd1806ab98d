import java.io.IOException;
import java.nio.file.Files;
import java.nio.file.Path;
import java.util.regex.Matcher;
import java.util.regex.Pattern;

/** The document's public face, line by line, and the heads of its promises; LanguageTest looks for what is too much. */
public final class FaceTest {
    private static final String PART = "The public face";

    private FaceTest() {
    }

    public static void main(String[] args) throws IOException {
        String source = Files.readString(Path.of("src/main/java/SpriteAtlas.java")).replaceAll("\\s+", " ");
        theClass(source);
        constants(source);
        methods(source);
        Doc.finish(PART);
    }

    private static void theClass(String source) {
        Doc.says(PART, "public final class SpriteAtlas {");
        Doc.holds("it stands in the source", source.contains("public final class SpriteAtlas {"));
    }

    private static void constants(String source) {
        Matcher line = Pattern.compile("public static final int [^;]*;").matcher(Doc.part(PART));
        int count = 0;
        while (line.find()) {
            Doc.says(PART, line.group());
            Doc.holds("it stands in the source", source.contains(line.group()));
            Matcher constant = Pattern.compile("(\\w+) = (-?\\d+)").matcher(line.group());
            while (constant.find()) {
                count++;
                Doc.due(constant.group(1), valueOf(constant.group(1)), Integer.parseInt(constant.group(2)));
            }
        }
        Doc.due("the number of constants", count, 16);
    }

    private static int valueOf(String constant) {
        try {
            return SpriteAtlas.class.getField(constant).getInt(null);
        } catch (ReflectiveOperationException e) {
            return Integer.MIN_VALUE;
        }
    }

    /** The constructor and the methods, each with the names of its parameters. */
    private static void methods(String source) {
        Matcher line = Pattern.compile("public ([a-zA-Z ]+\\([^)]*\\));").matcher(Doc.part(PART));
        int promise = 0;
        while (line.find()) {
            promise++;
            Doc.says(PART, line.group());
            Doc.holds("it stands in the source", source.contains("public " + line.group(1) + " {"));
            Doc.due("the head of promise " + promise, Doc.part("head " + promise), line.group(1));
        }
        Doc.due("the constructor and the methods", promise, 58);
    }
}
