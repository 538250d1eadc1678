import java.io.IOException;
import java.lang.reflect.Method;
import java.nio.file.DirectoryStream;
import java.nio.file.Files;
import java.nio.file.Path;
import java.util.regex.Matcher;
import java.util.regex.Pattern;

/** README.md's game is played call by call, each with the answer that stands behind it; its table names each test. */
public final class ReadmeTests {
    private static final Path README = Path.of("README.md");
    private static final Path TESTS = Path.of("src/test/java");
    private static final Pattern CALL = Pattern.compile("x\\.(\\w+)\\((.*)\\); // (-?\\w+).*");

    private ReadmeTests() {
    }

    public static void main(String[] args) throws IOException, ReflectiveOperationException {
        String readme = Files.readString(README);
        playTheGame(readme);
        findTheTests(readme);
        Checks.finish("ReadmeTests");
    }

    private static void playTheGame(String readme) throws ReflectiveOperationException {
        String game = readme.substring(readme.indexOf("```java\n") + 8);
        CheatHeap x = new CheatHeap();
        int calls = 0;
        for (String line : game.substring(0, game.indexOf("```")).split("\n")) {
            Matcher m = CALL.matcher(line);
            if (m.matches()) {
                calls++;
                Checks.due(calls + ": " + line, answer(x, m.group(1), m.group(2)), number(m.group(3)));
            } else {
                boolean isNoCall = line.isEmpty() || line.startsWith("// ") || line.equals("CheatHeap x = new CheatHeap();");
                Checks.due("a call with its answer, or none: " + line, isNoCall, true);
            }
        }
        Checks.due("there is a game", calls > 0, true);
    }

    private static long answer(CheatHeap x, String name, String args) throws ReflectiveOperationException {
        String[] told = args.isEmpty() ? new String[0] : args.split(", ");
        for (Method m : CheatHeap.class.getMethods()) {
            if (m.getName().equals(name) && m.getParameterCount() == told.length) {
                Object[] values = new Object[told.length];
                for (int i = 0; i < told.length; i++) {
                    values[i] = number(told[i]);
                }
                Object got = m.invoke(x, values);
                return got instanceof Boolean b ? (b ? 1 : 0) : ((Number) got).longValue();
            }
        }
        throw new IllegalStateException("no such call: " + name);
    }

    private static int number(String told) {
        switch (told) {
            case "true":
                return 1;
            case "false":
                return 0;
            case "NONE":
            case "CheatHeap.NONE":
                return CheatHeap.NONE;
            default:
                return Integer.decode(told);
        }
    }

    private static void findTheTests(String readme) throws IOException {
        try (DirectoryStream<Path> files = Files.newDirectoryStream(TESTS, "*{Tests,Edges}.java")) {
            for (Path file : files) {
                String name = file.getFileName().toString().replace(".java", "");
                Checks.due("README.md names " + name, readme.contains("`" + name + "`"), true);
            }
        }
    }
}
