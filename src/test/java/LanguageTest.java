import java.io.IOException;
import java.nio.file.Files;
import java.nio.file.Path;
import java.util.regex.Matcher;
import java.util.regex.Pattern;

/** What of LANGUAGE.md can be seen in the program's text alone. Runs in the project's folder. */
public final class LanguageTest {
    private static final Due DUE = new Due("LanguageTest");

    public static void main(String[] args) throws IOException {
        String text = Files.readString(Path.of("src/main/java/StonesChoose.java"));
        String bare = text.replaceAll("(?s)/\\*.*?\\*/", "").replaceAll("//[^\n]*", "");
        DUE.is("signs are 1 to 127", text.chars().filter(c -> c > 127 || c < 1).count(), 0);
        none(bare, "rule 6", "\\b(throw|throws|try|catch|finally|synchronized|assert|null)\\b");
        none(bare, "rule 4", "\\bimport\\b|\\bpackage\\b");
        none(bare, "rule 2", "->|::|\\bnew \\w+\\([^)]*\\) *\\{");
        none(bare, "rule 10", "\" *\\+|\\+ *\"");
        none(bare, "rule 3", "\\b(var|Object|double|float|volatile|transient|native|strictfp)\\b");
        none(bare, "rule 13", "\\b(System\\.(?!arraycopy)\\w+|Thread|Runtime|Random|File)\\b");
        none(bare, "rule 4", "\\b(Math|Integer|Long)\\.\\w*Exact\\b");
        none(bare, "rule 5", "\\bstatic *\\{");
        none(bare, "rule 3", "\\[\\]\\[\\]\\[\\]");
        methodsAreShort(bare);
        DUE.end();
    }

    private static void none(String text, String rule, String what) {
        Matcher m = Pattern.compile(what).matcher(text);
        while (m.find()) {
            DUE.is(rule + ": " + m.group(), 1, 0);
        }
        DUE.is(rule, 0, 0);
    }

    /** Methods begin and end with a brace at the depth of their class's members. */
    private static void methodsAreShort(String text) {
        int begun = -1;
        int depth = 0;
        String[] lines = text.split("\n", -1);
        for (int i = 0; i < lines.length; i++) {
            int indent = lines[i].length() - lines[i].stripLeading().length();
            boolean heads = lines[i].endsWith(") {") && (indent == 4 || indent == 8)
                && !lines[i].strip().matches("(if|for|while|switch|\\}).*");
            if (heads && begun < 0) {
                begun = i;
                depth = indent;
            } else if (begun >= 0 && indent == depth && lines[i].strip().equals("}")) {
                DUE.is("rule 11: sixty lines: " + lines[begun].strip(), i - begun + 1 <= 60 ? 1 : 0, 1);
                begun = -1;
            }
        }
    }
}
