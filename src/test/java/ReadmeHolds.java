import java.io.IOException;
import java.lang.reflect.Method;
import java.lang.reflect.Modifier;
import java.nio.file.Files;
import java.nio.file.Path;
import java.util.regex.Matcher;
import java.util.regex.Pattern;

/** The README's example answers what it says there, and the README names every call of the face. */
public final class ReadmeHolds {
    private static final Due D = new Due("ReadmeHolds");
    private static final Pattern CALL = Pattern.compile("(?m)^x\\.(\\w+)\\(([^)]*)\\); *// (-?\\d+): ");

    public static void main(String[] args) throws IOException, ReflectiveOperationException {
        String text = Files.readString(Path.of("README.md"));
        example(text);
        names(text);
        tests(text);
        D.end();
    }

    private static void example(String text) throws ReflectiveOperationException {
        KitchenDrift x = new KitchenDrift();
        Matcher call = CALL.matcher(text);
        int calls = 0;
        while (call.find()) {
            calls++;
            D.due("README: " + call.group(1) + "(" + call.group(2) + ")",
                    answer(x, call.group(1), call.group(2)), Long.parseLong(call.group(3)));
        }
        D.due("README: the example has calls", calls > 0 ? 1 : 0, 1);
    }

    private static long answer(KitchenDrift x, String name, String list) throws ReflectiveOperationException {
        String[] words = list.isEmpty() ? new String[0] : list.split(", ");
        Class<?>[] types = new Class<?>[words.length];
        Object[] numbers = new Object[words.length];
        for (int n = 0; n < words.length; n++) {
            types[n] = int.class;
            numbers[n] = Integer.parseInt(words[n]);
        }
        return ((Number) KitchenDrift.class.getMethod(name, types).invoke(x, numbers)).longValue();
    }

    private static void names(String text) {
        for (Method m : KitchenDrift.class.getDeclaredMethods()) {
            if (Modifier.isPublic(m.getModifiers())) {
                D.due("README: names " + m.getName(), text.contains("`" + m.getName() + "(") ? 1 : 0, 1);
            }
        }
    }

    private static void tests(String text) throws IOException {
        try (var files = Files.newDirectoryStream(Path.of("src/test/java"), "*.java")) {
            for (Path file : files) {
                String name = file.getFileName().toString().replace(".java", "");
                boolean runs = Files.readString(file).contains("public static void main");
                D.due("README: tells of " + name, !runs || text.contains("`" + name + "`") ? 1 : 0, 1);
            }
        }
    }
}
