import java.lang.reflect.Field;
import java.lang.reflect.Method;
import java.lang.reflect.Modifier;
import java.nio.file.Files;
import java.nio.file.Path;
import java.util.List;
import java.util.regex.Matcher;
import java.util.regex.Pattern;

/** Every call in README.md answers what stands behind it, and README.md names the whole face. Runs from the project's root. */
public final class ReadmeTest {
    private static final Pattern CALL = Pattern.compile("king\\.(\\w+)\\(([^)]*)\\);\\s*// (-?\\d+|[A-Z]+)(:.*)?");

    private static int wrong = 0;

    private static void fault(String what) {
        wrong++;
        System.out.println(what);
    }

    private static int number(String text) {
        return Integer.decode(text.trim());
    }

    private static int answer(DominoKing king, String name, String arguments) throws Exception {
        String[] texts = arguments.isBlank() ? new String[0] : arguments.split(",");
        Class<?>[] types = new Class<?>[texts.length];
        Object[] values = new Object[texts.length];
        for (int i = 0; i < texts.length; i++) {
            types[i] = int.class;
            values[i] = number(texts[i]);
        }
        return (int) DominoKing.class.getMethod(name, types).invoke(king, values);
    }

    private static int due(String told) throws Exception {
        return Character.isLetter(told.charAt(0)) ? DominoKing.class.getField(told).getInt(null) : number(told);
    }

    private static int runCalls(List<String> lines) throws Exception {
        DominoKing king = null;
        boolean inJava = false;
        int calls = 0;
        for (String line : lines) {
            if (line.startsWith("```")) {
                inJava = line.equals("```java");
            } else if (inJava && line.equals("DominoKing king = new DominoKing();")) {
                king = new DominoKing();
            } else if (inJava) {
                Matcher m = CALL.matcher(line);
                if (king == null || !m.matches()) {
                    fault("no call with its answer: " + line);
                    continue;
                }
                calls++;
                int got = answer(king, m.group(1), m.group(2));
                if (got != due(m.group(3))) {
                    fault(line + " answered " + got);
                }
            }
        }
        return calls;
    }

    private static void namesTheFace(String page) {
        for (Method m : DominoKing.class.getDeclaredMethods()) {
            if (Modifier.isPublic(m.getModifiers()) && !page.contains("`" + m.getName() + "`")) {
                fault("the call " + m.getName() + " is not named");
            }
        }
        for (Field f : DominoKing.class.getFields()) {
            if (!page.contains("| `" + f.getName() + "` |")) {
                fault("the constant " + f.getName() + " is not named");
            }
        }
    }

    private static void namesTheTests(String page) throws Exception {
        try (var files = Files.list(Path.of("src/test/java"))) {
            for (Path file : files.toList()) {
                String name = file.getFileName().toString().replace(".java", "");
                if (!page.contains("`" + name + "`")) {
                    fault("the test " + name + " is not named");
                }
            }
        }
    }

    public static void main(String[] args) throws Exception {
        Path page = Path.of("README.md");
        int calls = runCalls(Files.readAllLines(page));
        if (calls < 30) {
            fault("only " + calls + " calls");
        }
        namesTheFace(Files.readString(page));
        namesTheTests(Files.readString(page));
        System.out.println(wrong == 0 ? "README.md says what is so" : wrong + " things in README.md are not so");
        if (wrong != 0) {
            System.exit(1);
        }
    }
}
