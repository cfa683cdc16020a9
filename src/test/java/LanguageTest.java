import java.io.IOException;
import java.nio.charset.StandardCharsets;
import java.nio.file.Files;
import java.nio.file.Path;
import java.util.regex.Matcher;
import java.util.regex.Pattern;

/** What of LANGUAGE.md can be seen in the source by its words alone. */
public final class LanguageTest {
    private static final String[] OUT = {"throw", "throws", "try", "catch", "finally", "synchronized", "assert", "import",
        "package", "protected", "volatile", "transient", "native", "System\\.out", "System\\.nano", "Thread", "Random",
        "String\\.format", "toString\\(\\)", "hashCode", "\\w+Exact", "double", "float"};

    private static String bare(String source) {
        String s = source.replaceAll("(?s)/\\*.*?\\*/", "").replaceAll("//[^\n]*", "");
        return s.replaceAll("\"[^\"\n]*\"", "TEXT").replaceAll("'.'", "0");
    }

    private static void methods(Due due, String source) {
        Pattern head = Pattern.compile("^ +(?:[\\w\\[\\]]+ )*\\w+\\(([^()]*)\\) \\{$");
        String[] lines = source.split("\n");
        for (int i = 0; i < lines.length; i++) {
            Matcher m = head.matcher(lines[i]);
            if (!m.matches() || lines[i].matches(" +(else )?(if|for|while|switch) .*")) {
                continue;
            }
            String indent = lines[i].replaceAll("\\S.*", "");
            int end = i;
            while (end < lines.length && !lines[end].equals(indent + "}")) {
                end++;
            }
            due.hold("some sixty lines: " + lines[i].trim(), end - i < 60);
            due.hold("seven parameters at most: " + lines[i].trim(), m.group(1).split(",").length <= 7);
        }
    }

    public static void main(String[] args) throws IOException {
        Due due = new Due();
        Path path = Path.of(System.getProperty("project.root", "."), "src/main/java/OneCubeEach.java");
        String source = new String(Files.readAllBytes(path), StandardCharsets.ISO_8859_1);
        String bare = bare(source);
        for (String word : OUT) {
            due.hold("without " + word, !Pattern.compile("\\b" + word + "(?!\\w)").matcher(bare).find());
        }
        due.hold("no lambda, no method reference", !bare.contains("->") && !bare.contains("::"));
        due.hold("no text joined by +", !bare.contains("TEXT +") && !bare.contains("+ TEXT"));
        due.hold("signs 1 to 127", source.chars().allMatch(c -> c > 0 && c < 128));
        due.hold("no static block", !Pattern.compile("static\\s*\\{").matcher(bare).find());
        methods(due, source);
        due.end();
    }
}
