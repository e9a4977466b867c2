/** What the tests share: counting answers that are not as due, and short ways to bring a wall into a state. */
final class Check {
    private static int asDue, wrong;
    private static String sentence = "";

    private Check() { }

    /** The sentence of the document that the next answers stand for. */
    static void about(String itsSentence) {
        sentence = itsSentence.isEmpty() ? "" : itsSentence + "\n    ";
    }

    static void due(String call, long got, long want) {
        if (got == want) {
            asDue++;
            return;
        }
        wrong++;
        System.out.println(sentence + call + " answered " + got + ", due is " + want);
    }

    static void holds(String what, boolean so) {
        due(what, so ? 1 : 0, 1);
    }

    /** Ends the test: exit code 1 if one answer was not as due, or none was asked. */
    static void end(String test) {
        System.out.println(test + ": " + asDue + " answers as due, " + wrong + " not");
        if (wrong != 0 || asDue == 0) System.exit(1);
    }

    static ToadWall wall(int... beds) {
        ToadWall x = new ToadWall();
        for (int bed : beds) x.block(bed);
        return x;
    }

    static ToadWall at(ToadWall x, int... thoughts) {
        for (int b = 0; b < thoughts.length; b++) x.mend(b, 1, thoughts[b]);
        return x;
    }

    static int law(ToadWall x, String text) {
        for (int i = 0; i < text.length(); i++) x.feed(text.charAt(i));
        return x.law();
    }

    static ToadWall row(ToadWall x, int shelf, int sort, long... values) {
        x.row(shelf, sort, values.length);
        for (int i = 0; i < values.length; i++) x.put(shelf, i, values[i]);
        return x;
    }
}
