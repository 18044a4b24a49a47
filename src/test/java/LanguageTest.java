import java.io.IOException;
import java.nio.file.Files;
import java.nio.file.Path;
import java.util.Map;
import java.util.Set;
import java.util.TreeMap;
import java.util.TreeSet;
import java.util.regex.Matcher;
import java.util.regex.Pattern;

/** The rules of LANGUAGE.md that can be read off the source: words, types, lengths. */
public final class LanguageTest {
    private static final String SOURCE = "src/main/java/RichestPays.java";
    private static final String[] RULED_OUT = {
        "\\bimport\\b", "\\bpackage\\b", "\\bthrow\\b", "\\bthrows\\b", "\\btry\\b", "\\bcatch\\b",
        "\\bfinally\\b", "\\bsynchronized\\b", "\\bassert\\b", "\\bprotected\\b", "\\bvolatile\\b",
        "\\bnative\\b", "\\bstrictfp\\b", "\\btransient\\b", "\\bvar\\b", "->", "::", "@",
        "\\w+Exact\\b", "\\bObject\\b", "\\bSystem\\.(?!arraycopy\\b)", "\\bThread\\b",
        "\\bequals\\b", "\\bhashCode\\b", "\\btoString\\b", "\\bstatic\\s*\\{", "\"",
        "\\bjava\\.", "\\bwhile\\b", "\\bdouble\\b", "\\bfloat\\b",
        "\\bstatic (?!final\\b)(?!class\\b)[\\w\\[\\]]+ \\w+\\s*[=;]",
    };
    private static final Pattern METHOD =
            Pattern.compile("^( +)(?:[\\w\\[\\]]+ )*(\\w+)\\(([^)]*)\\) \\{$");
    private static final Pattern CALL = Pattern.compile("(\\w+)\\(");
    private static final int DEEPEST = 8;
    /** By the name of a method (those of one name as one) what it calls. */
    private static final Map<String, Set<String>> CALLED = new TreeMap<>();

    public static void main(String[] args) throws IOException {
        String source = Files.readString(Path.of(SOURCE));
        Due.isTrue("signs are 1 to 126", source.chars().allMatch(c -> c >= 1 && c <= 126));
        String code = source.replaceAll("(?s)/\\*.*?\\*/", " ").replaceAll("//[^\n]*", " ");
        for (String word : RULED_OUT) {
            Matcher m = Pattern.compile(word).matcher(code);
            Due.isTrue("ruled out: " + word, !m.find());
        }
        Matcher classes = Pattern.compile("\\bclass\\b").matcher(code);
        Due.isTrue("some twelve classes at most", classes.results().count() <= 13);
        methods(code.split("\n"));
        for (String name : CALLED.keySet()) {
            Due.isTrue(name + " is eight calls deep at most, and no recursion",
                    depth(name, 1) <= DEEPEST);
        }
        Due.end("LanguageTest");
    }

    private static void methods(String[] lines) {
        int methods = 0;
        for (int i = 0; i < lines.length; i++) {
            Matcher m = METHOD.matcher(lines[i]);
            if (!m.matches() || lines[i].trim().matches("(if|for|switch)\\b.*")) {
                continue;
            }
            methods++;
            int end = i;
            while (!lines[end].equals(m.group(1) + "}")) {
                end++;
            }
            Due.isTrue("short: " + lines[i].trim(), end - i < 60);
            Due.isTrue("seven parameters at most: " + lines[i].trim(),
                    m.group(3).split(",").length <= 7);
            Set<String> called = CALLED.computeIfAbsent(m.group(2), name -> new TreeSet<>());
            for (int line = i + 1; line < end; line++) {
                CALL.matcher(lines[line]).results().forEach(c -> called.add(c.group(1)));
            }
        }
        Due.isTrue("methods are found: " + methods, methods > 31);
    }

    /** How many methods stand open at once; one more than is allowed, if it calls itself. */
    private static int depth(String name, int above) {
        int deepest = above;
        if (above <= DEEPEST) {
            for (String called : CALLED.get(name)) {
                deepest = !CALLED.containsKey(called) ? deepest
                        : Math.max(deepest, depth(called, above + 1));
            }
        }
        return deepest;
    }
}
