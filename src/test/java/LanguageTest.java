import java.nio.charset.StandardCharsets;
import java.nio.file.Files;
import java.nio.file.Path;
import java.util.regex.Matcher;
import java.util.regex.Pattern;

/** What a plain look at the program's text can tell of the rules of LANGUAGE.md. */
public final class LanguageTest {
    private static final String[] OUT_OF_RULE = {
        "throw", "throws", "try", "catch", "finally", "synchronized", "assert", "import", "package",
        "record", "var", "Object", "Class", "Thread", "Random", "System.(?!arraycopy)",
        "\\w+Exact", "equals", "hashCode", "toString", "protected", "native", "volatile"};
    private static final Due DUE = new Due("LanguageTest");

    public static void main(String[] args) throws Exception {
        byte[] bytes = Files.readAllBytes(Path.of("src/main/java/SugarLoop.java"));
        boolean plain = true;
        for (byte b : bytes) {
            plain &= b > 0;
        }
        DUE.holds("signs are 1 to 127", plain);
        String text = bare(new String(bytes, StandardCharsets.US_ASCII));
        for (String word : OUT_OF_RULE) {
            absent(text, "\\b" + word + (word.endsWith(")") ? "" : "\\b"));
        }
        absent(text, "->|::|@|\"");
        absent(text, "\\bstatic\\s*\\{");
        absent(text, "\\bstatic (?!final\\b|int \\w+\\(|boolean \\w+\\(|long \\w+\\()");
        methods(text);
        DUE.end();
    }

    private static String bare(String text) {
        return text.replaceAll("(?s)/\\*.*?\\*/", "")
            .replaceAll("//[^\n]*", "").replaceAll("'[^\n]'", "'x'");
    }

    private static void absent(String text, String pattern) {
        Matcher found = Pattern.compile(pattern).matcher(text);
        DUE.holds(found.find() ? "without '" + found.group() + "'" : "", !found.find(0));
    }

    /** No method has over seven parameters or over sixty lines. */
    private static void methods(String text) {
        Matcher head = Pattern.compile("(?m)^( +)(?:\\w[\\w\\[\\] ]* )?(\\w+)\\(([^()]*)\\) \\{$").matcher(text);
        int found = 0;
        while (head.find()) {
            found++;
            int end = text.indexOf("\n" + head.group(1) + "}", head.end());
            long lines = text.substring(head.start(), end).chars().filter(c -> c == '\n').count();
            DUE.holds(head.group(2) + " is short", lines < 60);
            DUE.holds(head.group(2) + " has few parameters", head.group(3).split(",").length <= 7);
        }
        DUE.holds("methods are found", found > 60);
    }
}
