import java.io.IOException;
import java.lang.reflect.Method;
import java.nio.file.Files;
import java.nio.file.Path;
import java.util.List;
import java.util.regex.Matcher;
import java.util.regex.Pattern;

/** What README.md tells of the class: its example's answers, and each call of the face. */
public final class ReadmeTest {
    private static final Pattern CALL = Pattern.compile("house\\.(\\w+)\\(([-0-9, ]*)\\);\\s*// (-?\\w+).*");

    public static void main(String[] args) throws IOException, ReflectiveOperationException {
        List<String> lines = Files.readAllLines(Path.of("README.md"));
        exampleAnswers(lines);
        everyCallIsTold(lines);
        Check.finish("ReadmeTest");
    }

    private static void exampleAnswers(List<String> lines) throws ReflectiveOperationException {
        CoverHouse house = new CoverHouse();
        for (String line : lines) {
            Matcher call = CALL.matcher(line);
            if (line.startsWith("house.")) {
                Check.due("is a call with what it answers: " + line, call.matches(), true);
            }
            if (call.matches()) {
                Object answer = make(house, call.group(1), call.group(2));
                Check.due(line, answer == null ? call.group(3) : answer.toString(), call.group(3));
            }
        }
    }

    private static Object make(CoverHouse house, String name, String numbers) throws ReflectiveOperationException {
        String[] words = numbers.isEmpty() ? new String[0] : numbers.split(", ");
        Class<?>[] types = new Class<?>[words.length];
        Object[] values = new Object[words.length];
        for (int i = 0; i < words.length; i++) {
            types[i] = int.class;
            values[i] = Integer.valueOf(words[i]);
        }
        return CoverHouse.class.getMethod(name, types).invoke(house, values);
    }

    private static void everyCallIsTold(List<String> lines) {
        for (Method method : CoverHouse.class.getMethods()) {
            if (method.getDeclaringClass() == CoverHouse.class) {
                String name = method.getName();
                Check.due(name + " in the table", told(lines, "| `" + name + "("), true);
                Check.due(name + " in the example", told(lines, "house." + name + "("), true);
            }
        }
    }

    private static boolean told(List<String> lines, String start) {
        return lines.stream().anyMatch(line -> line.startsWith(start));
    }
}
