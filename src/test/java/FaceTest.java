import java.lang.reflect.Constructor;
import java.lang.reflect.Field;
import java.lang.reflect.Method;
import java.lang.reflect.Modifier;
import java.util.Arrays;
import java.util.Set;
import java.util.TreeSet;

/** The public face is that of the document, and nothing else of the class can be seen. */
public final class FaceTest {
    private static final String FACE = "int block(int) int blocks(int,int,int) int mend(int,int,int) int of(int,int) int feed(int)"
        + " int law() int goes(int) int later(int,int,int) int wall(int,int) int when(int,int) int meet(int) int steps(int,int)"
        + " int net(int,int) int fewest(int,int) int openings(int,int) long chance(int,int) int judge(int,int)"
        + " int fits(int,int,int) int changed(int,int,int) int byTurns(int,int) int drawn(int,int,int) int century()"
        + " int open(int) int hours(int) int led(int) int image() int back() int undo() int redo() int body(int)"
        + " int act(int,int,int) int trace(int) int keep(int,int) int row(int,int,int) int put(int,int,long)"
        + " long element(int,int) int shift(int,int,int,int,int) int taken(int,int) int count(int)";

    public static void main(String[] args) {
        Class<?> face = ToadWall.class;
        Check.due("public final", face.getModifiers(), Modifier.PUBLIC | Modifier.FINAL);
        Set<String> want = new TreeSet<>(Arrays.asList(FACE.split(" (?=int |long )")));
        Set<String> got = new TreeSet<>(), hidden = new TreeSet<>();
        for (Method m : face.getDeclaredMethods()) {
            if (Modifier.isPrivate(m.getModifiers())) hidden.add(m.getName());
            else got.add(told(m));
        }
        Check.holds("the methods of the face: " + got, got.equals(want));
        for (Method m : face.getDeclaredMethods()) {
            if (!Modifier.isPrivate(m.getModifiers())) Check.holds(m.getName() + " is no private one", !hidden.contains(m.getName()));
        }
        Constructor<?>[] made = face.getDeclaredConstructors();
        Check.due("constructors", made.length, 1);
        Check.holds("the constructor is public", Modifier.isPublic(made[0].getModifiers()) && made[0].getParameterCount() == 0);
        Set<String> constants = new TreeSet<>();
        for (Field f : face.getDeclaredFields()) {
            if (!Modifier.isPrivate(f.getModifiers())) constants.add(f.getName());
        }
        Check.holds("constants: " + constants, constants.equals(Set.of("BAD", "NOT", "FULL", "STATE", "VOID")));
        Check.due("BAD", ToadWall.BAD, -1);
        Check.due("NOT", ToadWall.NOT, -2);
        Check.due("FULL", ToadWall.FULL, -3);
        Check.due("STATE", ToadWall.STATE, -5);
        Check.due("VOID", ToadWall.VOID, -2000000000);
        for (Class<?> inside : face.getDeclaredClasses()) insideClass(inside, want);
        Check.end("FaceTest");
    }

    private static void insideClass(Class<?> inside, Set<String> want) {
        int how = inside.getModifiers();
        Check.holds(inside + " is static and not seen", Modifier.isStatic(how) && !Modifier.isPublic(how) && !Modifier.isProtected(how));
        for (Method m : inside.getDeclaredMethods()) {
            boolean like = want.stream().anyMatch(w -> w.contains(" " + m.getName() + "("));
            Check.holds(inside + "." + m.getName() + " has no name of the face", !like);
            Check.holds(inside + "." + m.getName() + " takes seven at most", m.getParameterCount() <= 7);
        }
    }

    private static String told(Method m) {
        StringBuilder s = new StringBuilder(m.getReturnType().getName()).append(' ').append(m.getName()).append('(');
        for (Class<?> p : m.getParameterTypes()) s.append(s.charAt(s.length() - 1) == '(' ? "" : ",").append(p.getName());
        return s.append(')').toString();
    }
}
