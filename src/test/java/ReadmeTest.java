import java.io.IOException;
import java.lang.reflect.Method;
import java.lang.reflect.Modifier;
import java.net.URL;
import java.net.URLClassLoader;
import java.nio.file.Files;
import java.nio.file.Path;
import java.util.ArrayList;
import java.util.List;
import java.util.regex.Matcher;
import java.util.regex.Pattern;
import java.util.spi.ToolProvider;

/** The calls that README.md shows compile, and answer what it tells behind them. Run from the project's folder. */
public final class ReadmeTest {
    private static final Pattern BLOCK = Pattern.compile("(?s)```java\n(.*?)```");
    private static final Pattern CALL = Pattern.compile(
        "(?:int (\\w+) = )?(wall\\.\\w+\\([^;]*\\));\\s+// (-?\\d+|BAD|NOT|FULL|STATE|VOID|Long\\.MIN_VALUE)(:.*)?");
    private static final Pattern WITHOUT_ANSWER = Pattern.compile(
        "ToadWall wall = new ToadWall\\(\\);|for \\(.*\\) wall\\.(feed|block)\\(\\w\\);");

    private final List<String> calls = new ArrayList<>();
    private final StringBuilder lines = new StringBuilder();

    public static void main(String[] args) throws IOException, ReflectiveOperationException {
        ReadmeTest test = new ReadmeTest();
        Matcher blocks = BLOCK.matcher(Files.readString(Path.of("README.md")));
        while (blocks.find()) blocks.group(1).lines().forEach(test::take);
        test.everyCallIsShown();
        test.answersAreAsTold();
        Check.end("ReadmeTest");
    }

    private void take(String line) {
        Matcher call = CALL.matcher(line);
        if (call.matches()) {
            takeCall(call.group(1), call.group(2), call.group(3));
            return;
        }
        Check.holds("README.md tells the answer: " + line, WITHOUT_ANSWER.matcher(line).matches());
        lines.append(line).append('\n');
    }

    private void takeCall(String variable, String call, String told) {
        String answered = call;
        if (variable != null) {
            lines.append("int ").append(variable).append(" = ").append(call).append(";\n");
            answered = variable;
        }
        String due = told.matches("[A-Z]+") ? "ToadWall." + told : told;
        lines.append("answers[").append(calls.size()).append("] = new long[] {").append(answered).append(", ").append(due).append("};\n");
        calls.add(call);
    }

    private void everyCallIsShown() {
        for (Method m : ToadWall.class.getDeclaredMethods()) {
            if (Modifier.isPublic(m.getModifiers())) {
                Check.holds("README.md shows " + m.getName() + "()", lines.indexOf("wall." + m.getName() + "(") >= 0);
            }
        }
    }

    private void answersAreAsTold() throws IOException, ReflectiveOperationException {
        long[][] answers = ran("public final class Shown { public static long[][] answers() { long[][] answers = new long[" + calls.size()
            + "][];\n" + lines + "return answers; } }");
        for (int c = 0; c < calls.size(); c++) Check.due("README.md, " + calls.get(c), answers[c][0], answers[c][1]);
    }

    private static long[][] ran(String source) throws IOException, ReflectiveOperationException {
        Path folder = Files.createTempDirectory("shown"), file = folder.resolve("Shown.java"), made = folder.resolve("Shown.class");
        try {
            Files.writeString(file, source);
            int code = ToolProvider.findFirst("javac").orElseThrow()
                .run(System.out, System.err, "-cp", System.getProperty("java.class.path"), "-d", folder.toString(), file.toString());
            if (code != 0) throw new IllegalStateException("what README.md shows does not compile");
            try (URLClassLoader loader = new URLClassLoader(new URL[] {folder.toUri().toURL()})) {
                return (long[][]) loader.loadClass("Shown").getMethod("answers").invoke(null);
            }
        } finally {
            Files.deleteIfExists(made);
            Files.deleteIfExists(file);
            Files.deleteIfExists(folder);
        }
    }
}
