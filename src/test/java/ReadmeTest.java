import java.io.IOException;
import java.lang.reflect.Method;
import java.lang.reflect.Modifier;
import java.nio.file.Files;
import java.nio.file.Path;
import java.util.Arrays;
import java.util.List;
import java.util.regex.Matcher;
import java.util.regex.Pattern;

/** The examples of README.md answer as it says, and it names each call and each constant. */
public final class ReadmeTest extends Checks {
    private static final String MADE = "TurnTops kitchen = new TurnTops();";
    /** A call, what it answers, and what may be said of that. */
    private static final Pattern EXAMPLE = Pattern.compile("kitchen\\.(\\w+)\\((.*)\\); +// (-?\\d+|[A-Z_]+)(: .+)?");

    public static void main(String[] args) throws IOException, ReflectiveOperationException {
        List<String> lines = Files.readAllLines(Path.of("README.md"));
        examples(lines);
        calls(String.join("\n", lines));
        constants(lines);
        end();
    }

    private static void examples(List<String> lines) throws ReflectiveOperationException {
        about("README.md, its examples");
        TurnTops kitchen = new TurnTops();
        boolean inside = false;
        int made = 0;
        for (String line : lines) {
            if (line.startsWith("```")) {
                inside = line.equals("```java");
            } else if (inside && line.equals(MADE)) {
                kitchen = new TurnTops();
                made++;
            } else if (inside) {
                example(kitchen, line);
            }
        }
        isTrue("there are examples", made > 0);
    }

    private static void example(TurnTops kitchen, String line) throws ReflectiveOperationException {
        Matcher example = EXAMPLE.matcher(line);
        isTrue(line + " is a call with its answer", example.matches());
        if (example.matches()) {
            Object[] arguments = Arrays.stream(example.group(2).split(", ")).filter(a -> !a.isEmpty())
                .map(ReadmeTest::number).toArray();
            Class<?>[] types = new Class<?>[arguments.length];
            Arrays.fill(types, int.class);
            Method method = TurnTops.class.getMethod(example.group(1), types);
            is(line, (Integer) method.invoke(kitchen, arguments), answer(example.group(3)));
        }
    }

    /** A number, or a character between single quotes. */
    private static int number(String argument) {
        return argument.startsWith("'") ? argument.charAt(1) : Integer.parseInt(argument);
    }

    private static int answer(String told) throws ReflectiveOperationException {
        return Character.isLetter(told.charAt(0)) ? TurnTops.class.getField(told).getInt(null) : Integer.parseInt(told);
    }

    private static void calls(String page) {
        about("README.md, the calls");
        for (Method method : TurnTops.class.getDeclaredMethods()) {
            if (Modifier.isPublic(method.getModifiers())) {
                Matcher row = Pattern.compile("\n\\| `" + method.getName() + "\\((.*?)\\)` \\| .+ \\|").matcher(page);
                isTrue(method.getName() + " is told", row.find());
                is(method.getName() + ", its arguments", row.reset().find() && !row.group(1).isEmpty()
                    ? row.group(1).split(", ").length : 0, method.getParameterCount());
            }
        }
    }

    private static void constants(List<String> lines) {
        about("README.md, the constants");
        String[] names = {"INVALID_ARGUMENT", "NOT_POSSIBLE", "LIMIT_REACHED", "NOT_FOUND"};
        int[] values = {INVALID, IMPOSSIBLE, LIMIT, NOT_FOUND};
        for (int i = 0; i < names.length; i++) {
            String begin = "| `" + names[i] + "` | " + values[i] + " | ";
            isTrue(names[i] + " is told", lines.stream().anyMatch(l -> l.startsWith(begin)));
        }
    }
}
