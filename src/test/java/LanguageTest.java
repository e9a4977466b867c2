import java.io.IOException;
import java.lang.reflect.Modifier;
import java.nio.file.Files;
import java.nio.file.Path;
import java.util.Arrays;
import java.util.List;
import java.util.regex.Matcher;
import java.util.regex.Pattern;

/** What of LANGUAGE.md can be seen in the source's own lines. Run from the project's folder. */
public final class LanguageTest {
    private static final List<String> FORBIDDEN = List.of("throw", "throws", "try", "catch", "finally", "synchronized", "assert", "package",
        "System\\.(?!arraycopy)\\w+", "Thread", "Random", "Object", "hashCode", "toString", "\\w+Exact", "native", "volatile", "var", "yield",
        "protected", "strictfp", "transient", "double", "float");

    public static void main(String[] args) throws IOException {
        String source = Files.readString(Path.of("src/main/java/ToadWall.java"));
        Check.holds("signs of the source", source.chars().allMatch(c -> c < 128));
        String code = source.replaceAll("(?s)/\\*.*?\\*/", "").replaceAll("//[^\n]*", "").replaceAll("'[^']+'", "0");
        for (String word : FORBIDDEN) {
            Check.holds("6, 13: no " + word, !Pattern.compile("\\b" + word + "\\b").matcher(code).find());
        }
        Check.holds("2: no lambda, no method reference", !code.contains("->") && !code.contains("::"));
        Check.holds("5: no static block", !Pattern.compile("static\\s*\\{").matcher(code).find());
        Matcher imports = Pattern.compile("import ([^;]+);").matcher(code);
        while (imports.find()) Check.holds("4: import " + imports.group(1), imports.group(1).equals("java.util.Arrays"));
        Matcher fields = Pattern.compile("static (final )?\\w+(\\[\\])* \\w+ =").matcher(code);
        while (fields.find()) Check.holds("5: " + fields.group() + " is final", fields.group(1) != null);
        everyNewIsInAConstructor(code);
        methodsAreShort(code);
        classesAreFew();
        Check.end("LanguageTest");
    }

    /** A run's room is counted: rows are made with the object, and no call makes another one. */
    private static void everyNewIsInAConstructor(String code) {
        String[] lines = code.split("\n");
        String header = "";
        for (String line : lines) {
            if (line.matches("\\s+(public |private )?(static )?[\\w\\[\\] ]*\\w+\\([^)]*\\) \\{")) header = line.trim();
            if (!Pattern.compile("\\bnew\\b").matcher(line).find()) continue;
            boolean field = line.matches("\\s+private (final )?\\w+\\[\\] .*");
            Check.holds("12: " + line.trim() + " in " + header, field || header.matches("(public )?[A-Z]\\w*\\(.*"));
        }
    }

    private static void methodsAreShort(String code) {
        int begun = 0, number = 0;
        for (String line : code.split("\n")) {
            number++;
            if (line.matches("( {4}| {8})[^ ].*\\) \\{")) begun = number;
            if (line.matches("( {4}| {8})\\}") && begun > 0) {
                Check.holds("11: the method that ends in code line " + number + " is short", number - begun < 60);
                begun = 0;
            }
        }
    }

    private static void classesAreFew() {
        Class<?>[] inside = ToadWall.class.getDeclaredClasses();
        Check.holds("11: classes: " + inside.length, inside.length + 1 <= 12);
        for (Class<?> c : inside) fieldsAreFew(c);
        fieldsAreFew(ToadWall.class);
    }

    private static void fieldsAreFew(Class<?> c) {
        long many = Arrays.stream(c.getDeclaredFields()).filter(f -> !Modifier.isStatic(f.getModifiers())).count();
        Check.holds("11: " + c + " has " + many + " fields", many <= 20);
    }
}
