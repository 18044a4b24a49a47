import java.io.IOException;
import java.nio.file.Files;
import java.nio.file.Path;
import java.util.regex.Matcher;
import java.util.regex.Pattern;

/** The rules of LANGUAGE.md that can be read off the source: words, types, lengths. */
public final class LanguageTest {
    private static final String SOURCE = "src/main/java/RichestPays.java";
    private static final String[] RULED_OUT = {
        "\\bimport\\b", "\\bpackage\\b", "\\bthrow\\b", "\\bthrows\\b", "\\btry\\b", "\\bcatch\\b",
        "\\bfinally\\b", "\\bsynchronized\\b", "\\bassert\\b", "\\bprotected\\b", "\\bvolatile\\b",
        "\\bnative\\b", "\\bstrictfp\\b", "\\btransient\\b", "\\bvar\\b", "->", "::", "@",
        "\\w+Exact\\b", "\\bObject\\b", "\\bSystem\\.(?!arraycopy\\b)", "\\bThread\\b",
        "\\bequals\\b", "\\bhashCode\\b", "\\btoString\\b", "\\bstatic\\s*\\{", "\"",
        "\\bjava\\.", "\\bwhile\\b", "\\bdouble\\b", "\\bfloat\\b",
        "\\bstatic (?!final\\b)(?!class\\b)[\\w\\[\\]]+ \\w+\\s*[=;]",
    };
    private static final Pattern METHOD =
            Pattern.compile("^( +)(?:\\w+ )*[\\w\\[\\]]+ ?\\w+\\(([^)]*)\\) \\{$");

    public static void main(String[] args) throws IOException {
        String source = Files.readString(Path.of(SOURCE));
        Due.isTrue("signs are 1 to 126", source.chars().allMatch(c -> c >= 1 && c <= 126));
        String code = source.replaceAll("(?s)/\\*.*?\\*/", " ").replaceAll("//[^\n]*", " ");
        for (String word : RULED_OUT) {
            Matcher m = Pattern.compile(word).matcher(code);
            Due.isTrue("ruled out: " + word, !m.find());
        }
        Matcher classes = Pattern.compile("\\bclass\\b").matcher(code);
        Due.isTrue("some twelve classes at most", classes.results().count() <= 13);
        methods(code.split("\n"));
        Due.end("LanguageTest");
    }

    private static void methods(String[] lines) {
        int methods = 0;
        for (int i = 0; i < lines.length; i++) {
            Matcher m = METHOD.matcher(lines[i]);
            if (!m.matches() || lines[i].trim().matches("(if|for|switch)\\b.*")) {
                continue;
            }
            methods++;
            int end = i;
            while (!lines[end].equals(m.group(1) + "}")) {
                end++;
            }
            Due.isTrue("short: " + lines[i].trim(), end - i < 60);
            Due.isTrue("seven parameters at most: " + lines[i].trim(),
                    m.group(2).split(",").length <= 7);
        }
        Due.isTrue("methods are found: " + methods, methods > 31);
    }
}
