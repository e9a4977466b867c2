import java.lang.reflect.InvocationTargetException;
import java.lang.reflect.Method;
import java.util.Arrays;
import java.util.Comparator;
import java.util.Random;

/** Random runs of calls, asked of ToadWall and of Model alike: every answer must be the same. */
public final class ModelTest {
    private static final int RUNS = 400, CALLS = 512;

    private final Random random;
    private final Method[] face;
    private final Method[] model;
    private ToadWall wall;
    private Model twin;
    private final int[] asked;
    private final int[] refused;

    private ModelTest(long seed) throws NoSuchMethodException {
        random = new Random(seed);
        face = Arrays.stream(ToadWall.class.getDeclaredMethods())
            .filter(m -> java.lang.reflect.Modifier.isPublic(m.getModifiers()))
            .sorted(Comparator.comparing(Method::getName)).toArray(Method[]::new);
        model = new Method[face.length];
        for (int m = 0; m < face.length; m++) model[m] = Model.class.getMethod(face[m].getName(), face[m].getParameterTypes());
        asked = new int[face.length];
        refused = new int[face.length];
    }

    public static void main(String[] args) throws ReflectiveOperationException {
        int runs = args.length > 0 ? Integer.parseInt(args[0]) : RUNS;
        ModelTest test = new ModelTest(args.length > 1 ? Long.parseLong(args[1]) : 20261118L);
        for (int run = 0; run < runs; run++) test.run(run);
        for (int m = 0; m < test.face.length; m++) {
            Check.holds(test.face[m].getName() + " was answered, and not refused alone", test.asked[m] > test.refused[m]);
        }
        Check.end("ModelTest");
    }

    private void run(int run) throws ReflectiveOperationException {
        wall = new ToadWall();
        twin = new Model();
        boolean wild = run % 5 == 4;
        if (!wild) prepare(run);
        for (int call = 0; call < CALLS / 2; call++) {
            int m = random.nextInt(face.length);
            String name = face[m].getName();
            if (name.equals("law")) tellLaw(run);
            else ask(run, m, arguments(face[m], wild));
        }
    }

    private void prepare(int run) throws ReflectiveOperationException {
        for (int b = random.nextInt(9); b > 0; b--) askByName(run, "block", random.nextInt(10));
        for (int t = random.nextInt(20); t > 0; t--) askByName(run, "mend", random.nextInt(16), 5 + random.nextInt(2), random.nextInt(10));
        for (int k = 0; k < 8; k++) if (random.nextBoolean()) askByName(run, "body", k);
        if (random.nextInt(3) > 0) tellLaw(run);
    }

    private void tellLaw(int run) throws ReflectiveOperationException {
        String text = random.nextInt(4) == 0 ? noise() : lawText();
        if (random.nextInt(3) == 0) text = spoiled(text);
        for (int i = 0; i < text.length() && i < 130; i++) askByName(run, "feed", (int) text.charAt(i));
        askByName(run, "law");
        for (int b = 0; b < 10; b++) askByName(run, "goes", b);
    }

    private static final String SIGNS = "bawnoy0123456789()!-+*/%<=>&|?;";

    private String noise() {
        StringBuilder s = new StringBuilder();
        for (int i = random.nextInt(random.nextInt(8) == 0 ? 125 : 12); i > 0; i--) s.append(SIGNS.charAt(random.nextInt(SIGNS.length())));
        return s.toString();
    }

    private String spoiled(String text) {
        StringBuilder s = new StringBuilder(text);
        int at = random.nextInt(s.length() + 1);
        int how = random.nextInt(3);
        char c = random.nextInt(9) == 0 ? (char) random.nextInt(256) : SIGNS.charAt(random.nextInt(SIGNS.length()));
        if (how == 0) s.insert(at, c);
        else if (at < s.length() && how == 1) s.setCharAt(at, c);
        else if (at < s.length()) s.deleteCharAt(at);
        return s.toString();
    }

    private String lawText() {
        StringBuilder s = new StringBuilder();
        int lines = 1 + random.nextInt(3);
        for (int l = 0; l < lines; l++) {
            if (l > 0) s.append(';');
            if (l < lines - 1 || random.nextInt(4) == 0) s.append(expression(2)).append('?');
            s.append(expression(3));
        }
        return s.length() > 120 ? lawText() : s.toString();
    }

    private String expression(int depth) {
        int kind = depth == 0 ? random.nextInt(2) : random.nextInt(10);
        switch (kind) {
            case 0: return random.nextInt(6) == 0 ? Integer.toString(random.nextInt(10000)) : Integer.toString(random.nextInt(10));
            case 1: case 2: return String.valueOf("bawnoy".charAt(random.nextInt(6)));
            case 3: return "!" + inBrackets(depth);
            case 4: return "-" + inBrackets(depth);
            case 5: return "(" + expression(depth - 1) + ")";
            default: return inBrackets(depth) + "+-*/%<=>&|".charAt(random.nextInt(10)) + inBrackets(depth);
        }
    }

    private String inBrackets(int depth) {
        String inside = expression(depth - 1);
        return inside.length() == 1 || random.nextInt(4) == 0 ? inside : "(" + inside + ")";
    }

    private void askByName(int run, String name, Object... arguments) throws ReflectiveOperationException {
        for (int m = 0; m < face.length; m++) if (face[m].getName().equals(name)) ask(run, m, arguments);
    }

    private void ask(int run, int m, Object[] arguments) throws ReflectiveOperationException {
        String call = "run " + run + ": " + face[m].getName() + Arrays.toString(arguments);
        long want = ((Number) model[m].invoke(twin, arguments)).longValue();
        long got;
        try {
            got = ((Number) face[m].invoke(wall, arguments)).longValue();
        } catch (InvocationTargetException thrown) {
            Check.holds(call + " threw " + thrown.getCause(), false);
            return;
        }
        asked[m]++;
        if (want < 0) refused[m]++;
        Check.due(call, got, want);
    }

    private Object[] arguments(Method m, boolean wild) {
        Class<?>[] types = m.getParameterTypes();
        Object[] a = new Object[types.length];
        for (int i = 0; i < types.length; i++) {
            int v = wild && random.nextInt(3) == 0 ? wildNumber() : random.nextInt(random.nextBoolean() ? 3 : 12) - (random.nextInt(6) == 0 ? 2 : 0);
            if (types[i] == int.class) a[i] = v;
            else a[i] = random.nextInt(3) == 0 ? random.nextLong() : (long) v;
        }
        if (!wild || random.nextBoolean()) fitting(m.getName(), a);
        return a;
    }

    private int wildNumber() {
        int[] edges = {Integer.MIN_VALUE, Integer.MAX_VALUE, -1, 60, 61, 99, 100, 16, 1023, 1024, 10, 655, 656};
        return random.nextBoolean() ? edges[random.nextInt(edges.length)] : random.nextInt();
    }

    private void fitting(String name, Object[] a) {
        int some = random.nextInt(61);
        switch (name) {
            case "later": case "wall": a[0] = some; break;
            case "mend": a[2] = (Integer) a[1] == 7 ? some : random.nextInt(17) - random.nextInt(2); break;
            case "meet": a[0] = random.nextInt(100); break;
            case "steps": case "when": a[1] = random.nextInt(16); break;
            case "net": a[0] = random.nextInt(16); a[1] = random.nextInt(3); break;
            case "fewest": a[0] = random.nextInt(1024) & random.nextInt(1024) & random.nextInt(1024); break;
            case "openings": a[0] = random.nextInt(5); a[1] = random.nextInt(6) - 1; break;
            case "byTurns": a[0] = 1 + random.nextInt(4); a[1] = random.nextInt(2); break;
            case "changed": a[1] = random.nextInt(660); a[2] = random.nextInt(2); break;
            case "drawn": a[0] = random.nextInt(); a[1] = (random.nextInt(8)) * 10000 + random.nextInt(20) * 100 + random.nextInt(14); break;
            case "hours": a[0] = random.nextInt(5); break;
            case "row": a[1] = random.nextInt(3) == 0 ? random.nextInt(5) : 0; a[2] = random.nextInt(random.nextInt(6) == 0 ? 64 : 9) - random.nextInt(2); break;
            case "put": a[1] = random.nextInt(10) - random.nextInt(2); break;
            case "blocks": a[1] = random.nextInt(8) - 2; break;
            case "shift": for (int i = 1; i < 5; i++) if (i != 2) a[i] = random.nextInt(6) - random.nextInt(2); break;
            case "act": a[1] = random.nextInt(5); a[2] = random.nextInt(3) == 0 ? random.nextInt() : random.nextInt(50); break;
            default: break;
        }
    }
}
