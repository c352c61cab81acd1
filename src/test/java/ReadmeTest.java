import java.io.IOException;
import java.lang.reflect.Method;
import java.nio.file.Files;
import java.nio.file.Path;
import java.util.HashSet;
import java.util.List;
import java.util.Set;
import java.util.regex.Matcher;
import java.util.regex.Pattern;

/** The example of README.md: each call in it answers the number that stands behind it. */
public final class ReadmeTest {
    private static final Check CHECK = new Check("ReadmeTest");
    private static final Pattern TEXT = Pattern.compile("for \\(char c : \"(.*)\"\\.toCharArray\\(\\)\\) \\{");
    private static final Pattern CALL = Pattern.compile("x\\.(\\w+)\\((.*)\\); +// (-?\\d+)\\b.*");

    public static void main(String[] args) throws IOException, ReflectiveOperationException {
        List<String> lines = Files.readAllLines(Path.of("README.md"));
        int begin = lines.indexOf("```java");
        int end = begin < 0 ? -1 : begin + lines.subList(begin, lines.size()).indexOf("```");
        CHECK.holds("there is an example", begin >= 0 && end > begin);
        if (end > begin) {
            follow(lines.subList(begin + 1, end));
        }
        everyCallIsNamed(String.join("\n", lines));
        CHECK.end();
    }

    private static void follow(List<String> lines) throws ReflectiveOperationException {
        ModalKeys x = new ModalKeys();
        int calls = 0;
        for (String line : lines) {
            Matcher text = TEXT.matcher(line);
            Matcher call = CALL.matcher(line);
            if (text.matches()) {
                Hand.tape(x, text.group(1));
            } else if (call.matches()) {
                calls++;
                CHECK.due(line, answer(x, call.group(1), call.group(2)), Integer.parseInt(call.group(3)));
            } else {
                CHECK.holds("not understood: " + line, line.matches("ModalKeys x = new ModalKeys\\(\\);|}|    x\\.type\\(c\\);.*"));
            }
        }
        CHECK.holds("there are calls", calls > 0);
    }

    private static int answer(ModalKeys x, String name, String arguments) throws ReflectiveOperationException {
        String[] words = arguments.isEmpty() ? new String[0] : arguments.split(", ");
        for (Method method : ModalKeys.class.getDeclaredMethods()) {
            if (method.getName().equals(name)) {
                Class<?>[] types = method.getParameterTypes();
                Object[] values = new Object[words.length];
                for (int i = 0; i < words.length; i++) {
                    int v = words[i].charAt(0) == '\'' ? words[i].charAt(1) : Integer.parseInt(words[i]);
                    // Boxed by kind: the two kinds of ?: would otherwise become one.
                    if (types[i] == long.class) {
                        values[i] = (long) v;
                    } else {
                        values[i] = v;
                    }
                }
                return (Integer) method.invoke(x, values);
            }
        }
        throw new NoSuchMethodException(name);
    }

    private static void everyCallIsNamed(String readme) {
        Set<String> missing = new HashSet<>();
        for (Method method : ModalKeys.class.getMethods()) {
            if (method.getDeclaringClass() == ModalKeys.class && !readme.contains("`" + method.getName() + "(")) {
                missing.add(method.getName());
            }
        }
        CHECK.due("calls that README.md does not name", missing.toString(), "[]");
    }
}
