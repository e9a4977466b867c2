import java.io.IOException;
import java.lang.reflect.Constructor;
import java.lang.reflect.Field;
import java.lang.reflect.Member;
import java.lang.reflect.Method;
import java.lang.reflect.Modifier;
import java.nio.file.Files;
import java.nio.file.Path;
import java.util.ArrayList;
import java.util.Arrays;
import java.util.List;
import java.util.Set;
import java.util.TreeSet;
import java.util.stream.Collectors;

/** The public face is that of the document, word by word, and nothing else of the class can be seen. Run from the project's folder. */
public final class FaceTest {
    private static final int CONSTANT = Modifier.PUBLIC | Modifier.STATIC | Modifier.FINAL;

    public static void main(String[] args) throws IOException, ReflectiveOperationException {
        List<String> lines = faceOfTheDocument();
        String source = Files.readString(Path.of("src/main/java/ToadWall.java"));
        Check.due("lines of the document's face", lines.size(), 1 + 1 + 1 + 39);
        for (String line : lines) {
            String ended = line.contains("(") ? line.replace(";", " {") : line;
            Check.holds("the source says '" + ended + "' once", source.split(java.util.regex.Pattern.quote(ended), -1).length == 2);
        }
        Class<?> face = ToadWall.class;
        Check.holds(lines.get(0), face.getModifiers() == (Modifier.PUBLIC | Modifier.FINAL));
        Check.holds("it is of no other class and has no ways of others", face.getSuperclass() == Object.class && face.getInterfaces().length == 0);
        constants(lines.get(1));
        constructor(lines.get(2));
        methods(lines.subList(3, lines.size()));
        for (Class<?> inside : face.getDeclaredClasses()) insideClass(inside);
        Check.end("FaceTest");
    }

    private static List<String> faceOfTheDocument() throws IOException {
        String document = Files.readString(Path.of("../shared/DOC.md"));
        String block = document.split("## The public face\\s+```java\n", 2)[1].split("\n}", 2)[0];
        return block.lines().map(String::trim).collect(Collectors.toList());
    }

    private static void constants(String line) throws ReflectiveOperationException {
        Set<String> want = new TreeSet<>();
        for (String one : line.replaceAll("public static final int |;", "").split(", ")) {
            String[] nameAndNumber = one.split(" = ");
            want.add(nameAndNumber[0]);
            Field f = ToadWall.class.getDeclaredField(nameAndNumber[0]);
            Check.holds(one + " is a constant of the face, an int", f.getModifiers() == CONSTANT && f.getType() == int.class);
            Check.due(one, f.getInt(null), Integer.parseInt(nameAndNumber[1]));
        }
        Check.holds("fields that can be seen are " + want, seen(ToadWall.class.getDeclaredFields()).equals(want));
    }

    private static void constructor(String line) {
        Constructor<?>[] made = ToadWall.class.getDeclaredConstructors();
        Check.due("constructors", made.length, 1);
        Check.holds(line, made[0].getModifiers() == Modifier.PUBLIC && made[0].getParameterCount() == 0);
    }

    private static void methods(List<String> lines) {
        Set<String> want = new TreeSet<>(), got = new TreeSet<>(), hidden = new TreeSet<>();
        for (String line : lines) want.add(line.replaceAll(" \\w+(?=[,)])", "").replace(", ", ",").replace(";", ""));
        for (Method m : ToadWall.class.getDeclaredMethods()) {
            if (Modifier.isPrivate(m.getModifiers())) hidden.add(m.getName());
            else got.add(m.toString().replace("ToadWall.", ""));
        }
        Check.holds("methods that can be seen: " + got + ", those of the document: " + want, got.equals(want));
        hidden.retainAll(seen(ToadWall.class.getDeclaredMethods()));
        Check.holds("private methods with a public one's name: " + hidden, hidden.isEmpty());
    }

    private static void insideClass(Class<?> inside) {
        int how = inside.getModifiers();
        Check.holds(inside + " is static and not seen", Modifier.isStatic(how) && !Modifier.isPublic(how) && !Modifier.isProtected(how));
        Set<String> face = seen(ToadWall.class.getDeclaredMethods());
        for (Method m : inside.getDeclaredMethods()) {
            Check.holds(inside + "." + m.getName() + " has no name of the face", !face.contains(m.getName()));
            Check.holds(inside + "." + m.getName() + " takes seven at most", m.getParameterCount() <= 7);
        }
        for (Constructor<?> c : inside.getDeclaredConstructors()) Check.holds(c + " takes seven at most", c.getParameterCount() <= 7);
        List<Member> members = new ArrayList<>(Arrays.asList(inside.getDeclaredFields()));
        members.addAll(Arrays.asList(inside.getDeclaredMethods()));
        for (Member m : members) Check.holds(m + " is not seen from elsewhere", (m.getModifiers() & (Modifier.PUBLIC | Modifier.PROTECTED)) == 0);
    }

    private static Set<String> seen(Member[] members) {
        return Arrays.stream(members).filter(m -> !Modifier.isPrivate(m.getModifiers())).map(Member::getName)
            .collect(Collectors.toCollection(TreeSet::new));
    }
}
