import java.io.IOException;
import java.nio.file.Files;
import java.nio.file.Path;
import java.util.ArrayList;
import java.util.List;
import java.util.regex.Matcher;
import java.util.regex.Pattern;

/** What of LANGUAGE.md can be seen from the text of the class. Its argument: the file. */
public final class LanguageTest {
    private static final String[] FORBIDDEN = {
        "\\bthrow\\b", "\\bthrows\\b", "\\btry\\b", "\\bcatch\\b", "\\bsynchronized\\b", "\\bassert\\b", "->", "::",
        "\\bimport\\b", "\\bpackage\\b", "\\bprotected\\b", "\\bdouble\\b", "\\bfloat\\b", "\\bSystem\\.(?!arraycopy)",
        "\\bThread\\b", "\\bRandom\\b", "Exact\\b", "\\bhashCode\\b", "\\btoString\\b", "\\bvolatile\\b", "\\bnative\\b",
        "\\bvar\\b", "\\byield\\b", "\\bObject\\b", "\\bstatic\\s*\\{",
    };

    public static void main(String[] args) throws IOException {
        String text = Files.readString(Path.of(args.length > 0 ? args[0] : "src/main/java/EverybodyHasTheBook.java"));
        text = text.replaceAll("(?s)/\\*.*?\\*/", "").replaceAll("//[^\n]*", "");
        Due.holds("signs are 1 to 127", text.chars().allMatch(c -> c > 0 && c < 128));
        for (String word : FORBIDDEN) {
            Matcher m = Pattern.compile(word).matcher(text);
            Due.holds(word, !m.find());
        }
        staticFieldsAreFinal(text);
        methods(text.split("\n"));
        Due.holds("twelve classes", count(text, "\\bclass\\s+\\w+\\s*\\{") <= 12);
        Due.end();
    }

    private static int count(String text, String what) {
        Matcher m = Pattern.compile(what).matcher(text);
        int many = 0;
        while (m.find()) {
            many++;
        }
        return many;
    }

    private static void staticFieldsAreFinal(String text) {
        Matcher m = Pattern.compile("static (?!final)[^(={]*[=;]").matcher(text);
        Due.holds("static fields are final", !m.find());
    }

    /** The header of a method stands on one line and its end at the same depth. */
    private static void methods(String[] lines) {
        Pattern header = Pattern.compile("^( +)(?!.*\\bclass\\b)(?:\\w+ )*[\\w\\[\\]]+ ?\\w+\\(([^)]*)\\) \\{$");
        List<String> seen = new ArrayList<>();
        for (int i = 0; i < lines.length; i++) {
            Matcher m = header.matcher(lines[i]);
            if (!m.matches() || lines[i].matches(" *(if|for|while|switch|return|\\}).*")) {
                continue;
            }
            int end = i;
            while (!lines[end].equals(m.group(1) + "}")) {
                end++;
            }
            seen.add(lines[i]);
            Due.holds("sixty lines: " + lines[i], end - i <= 60);
            Due.holds("seven parameters: " + lines[i], m.group(2).isEmpty() || m.group(2).split(",").length <= 7);
        }
        Due.holds("methods were found", seen.size() > 100);
    }
}
