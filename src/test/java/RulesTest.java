import java.io.IOException;
import java.nio.file.Files;
import java.nio.file.Path;
import java.nio.file.Paths;
import java.util.List;

/** Those rules of the program's language that the words and the lines of the source show. */
public final class RulesTest {
    private static final String[] FORBIDDEN = {"package", "import", "try", "catch", "throw",
        "finally", "synchronized", "assert", "->", "::", "protected", "native", "Exact(", "volatile",
        "hashCode", "toString", "getClass", "System.out", "Thread", "Float.", "Double.", "instanceof"};

    public static void main(String[] args) throws IOException {
        Due due = new Due();
        Path path = Paths.get("src/main/java/StepAxis.java");
        String source = new String(Files.readAllBytes(path), "US-ASCII");
        String code = source.replaceAll("(?s)/\\*.*?\\*/", "").replaceAll("//[^\n]*", "");
        for (String word : FORBIDDEN) {
            boolean letters = Character.isLetter(word.charAt(0))
                && Character.isLetter(word.charAt(word.length() - 1));
            boolean found = letters ? code.matches("(?s).*\\b" + word + "\\b.*")
                : code.contains(word);
            due.holds("the program does without " + word, !found);
        }
        for (int i = 0; i < source.length(); i++) {
            due.holds("sign " + i + " is plain", source.charAt(i) < 127);
        }
        due.holds("at most twelve classes", code.split("\\bclass\\b", -1).length - 1 <= 12);
        methods(due, code);
        due.end();
    }

    /** Methods start at four or eight spaces and end at a brace as far in. */
    private static void methods(Due due, String code) {
        List<String> lines = java.util.Arrays.asList(code.split("\n"));
        int seen = 0;
        for (int i = 0; i < lines.size(); i++) {
            String line = lines.get(i);
            if (line.matches("( {4}| {8})[^ ].*\\(.*\\) \\{") && !line.contains("class")) {
                String end = line.substring(0, line.length() - line.trim().length()) + "}";
                int j = i;
                while (j < lines.size() && !lines.get(j).equals(end)) {
                    j++;
                }
                due.holds("short: " + line.trim(), j < lines.size() && j - i < 60);
                seen++;
            }
        }
        due.holds("methods are seen: " + seen, seen > 60);
    }
}
