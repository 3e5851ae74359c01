import java.io.IOException;
import java.lang.reflect.Method;
import java.lang.reflect.Modifier;
import java.nio.file.Files;
import java.nio.file.Path;
import java.util.Set;
import java.util.TreeSet;
import java.util.regex.Matcher;
import java.util.regex.Pattern;

/** Every call that README.md shows, with the answer that it shows; and that it shows each method. */
public final class ReadmeTest {
    private static final Pattern CALL = Pattern.compile("^x\\.(\\w+)\\((.*?)\\); *// (-?\\d+): .+$");
    private static final Checks CHECKS = new Checks();

    public static void main(String[] args) throws IOException, ReflectiveOperationException {
        Set<String> shown = new TreeSet<>();
        MovesUp x = new MovesUp();
        for (String line : Files.readAllLines(Path.of("README.md"))) {
            Matcher call = CALL.matcher(line);
            if (line.equals("MovesUp x = new MovesUp();")) {
                x = new MovesUp();
            } else if (call.matches()) {
                shown.add(call.group(1));
                CHECKS.due("README: " + line, answer(x, call.group(1), call.group(2)), Long.parseLong(call.group(3)));
            } else {
                CHECKS.due("README: a call without its answer: " + line, line.startsWith("x.") ? 1 : 0, 0);
            }
        }
        for (Method method : MovesUp.class.getDeclaredMethods()) {
            if (Modifier.isPublic(method.getModifiers())) {
                CHECKS.due("README: shows " + method.getName(), shown.contains(method.getName()) ? 1 : 0, 1);
            }
        }
        CHECKS.end("ReadmeTest");
    }

    private static long answer(MovesUp x, String name, String told) throws ReflectiveOperationException {
        String[] words = told.isEmpty() ? new String[0] : told.split(", ");
        Class<?>[] types = new Class<?>[words.length];
        Object[] numbers = new Object[words.length];
        for (int i = 0; i < words.length; i++) {
            boolean isLong = words[i].endsWith("L");
            types[i] = isLong ? long.class : int.class;
            if (isLong) {
                numbers[i] = Long.decode(words[i].substring(0, words[i].length() - 1));
            } else {
                numbers[i] = Integer.decode(words[i]);
            }
        }
        return ((Number) MovesUp.class.getMethod(name, types).invoke(x, numbers)).longValue();
    }
}
