import java.io.IOException;
import java.lang.reflect.Method;
import java.lang.reflect.Modifier;
import java.nio.file.Files;
import java.nio.file.Path;
import java.util.Arrays;
import java.util.regex.Matcher;
import java.util.regex.Pattern;

/** README.md: each of its calls answers as it says there, and each public method is told. */
public final class ReadmeTest {
    private static final Pattern BLOCK = Pattern.compile("(?s)```java\n(.*?)```");
    private static final Pattern TYPED = Pattern.compile(
            "for \\(char b : \"([^\"]*)\"\\.toCharArray\\(\\)\\) x\\.type\\(([01]), b\\);.*");
    private static final Pattern CALL = Pattern.compile(
            "x\\.(\\w+)\\(([-0-9, ]*)\\); +// (-?[0-9]+): .*");

    public static void main(String[] args) throws IOException, ReflectiveOperationException {
        String readme = Files.readString(Path.of("README.md"));
        Matcher blocks = BLOCK.matcher(readme);
        int runs = 0;
        while (blocks.find()) {
            run(blocks.group(1).split("\n"));
            runs++;
        }
        Due.is("runs of calls in README.md", runs, 2);
        for (Method m : RichestPays.class.getDeclaredMethods()) {
            if (Modifier.isPublic(m.getModifiers())) {
                Pattern row = Pattern.compile("(?m)^\\|[^|]*`" + m.getName() + "\\(([^)]*)\\)`");
                Matcher told = row.matcher(readme);
                boolean isTold = told.find();
                Due.isTrue(m.getName() + "() has its row", isTold);
                Due.is("arguments of " + m.getName() + "()", isTold ? split(told.group(1)).length : -1,
                        m.getParameterCount());
            }
        }
        Due.end("ReadmeTest");
    }

    private static String[] split(String list) {
        return list.isBlank() ? new String[0] : list.split(", ");
    }

    private static void run(String[] lines) throws ReflectiveOperationException {
        Due.is("first line is a new object", lines[0].indexOf("RichestPays x = new RichestPays();"), 0);
        RichestPays x = new RichestPays();
        for (int i = 1; i < lines.length; i++) {
            Matcher typed = TYPED.matcher(lines[i]);
            Matcher call = CALL.matcher(lines[i]);
            if (typed.matches()) {
                Make.type(x, Integer.parseInt(typed.group(2)), typed.group(1));
            } else if (call.matches()) {
                String[] told = split(call.group(2));
                Due.is(lines[i], answer(x, call.group(1), told), Long.parseLong(call.group(3)));
            } else {
                Due.isTrue("a call with its answer: " + lines[i], false);
            }
        }
    }

    private static long answer(RichestPays x, String name, String[] told)
            throws ReflectiveOperationException {
        Class<?>[] types = new Class<?>[told.length];
        Object[] values = new Object[told.length];
        Arrays.fill(types, int.class);
        for (int i = 0; i < told.length; i++) {
            values[i] = Integer.valueOf(told[i]);
        }
        return ((Number) RichestPays.class.getMethod(name, types).invoke(x, values)).longValue();
    }
}
