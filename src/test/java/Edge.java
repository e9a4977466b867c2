import java.util.ArrayList;
import java.util.List;

/** States to ask in, and the test that a call answers so and changes nothing: a twin without the call must look the same. */
final class Edge {
    static final int BAD = ToadWall.BAD, NOT = ToadWall.NOT, FULL = ToadWall.FULL, STATE = ToadWall.STATE, VOID = ToadWall.VOID;
    static final long NONE = Long.MIN_VALUE;
    static final int LEAST = Integer.MIN_VALUE, MOST = Integer.MAX_VALUE;

    interface State {
        ToadWall make();
    }

    interface Ask {
        long of(ToadWall x);
    }

    interface AskWith {
        long of(ToadWall x, int v);
    }

    interface Look {
        void at(ToadWall x, List<String> seen);
    }

    private static final Look[] LOOKS = {Edge::numbers, Edge::rows, Edge::changes, Edge::imageLaidBack, Edge::tapeAndLaw, Edge::numbersToCome};

    private Edge() { }

    // ---- states

    static ToadWall fresh() {
        return new ToadWall();
    }

    /** Something of all: open ones, dead ones, an image, changes done and undone, a law, bytes on the tape, a trace, shelves. */
    static ToadWall rich() {
        ToadWall x = Check.wall(2, 5, 9, 0);
        Check.law(x, "b/3+o+y%2");
        x.mend(0, 1, 7);
        x.mend(3, 2, 9);
        x.mend(15, 5, 2);
        x.century();
        x.open(1);
        x.hours(2);
        x.image();
        x.century();
        x.open(3);
        x.hours(1);
        x.mend(6, 6, 9);
        x.mend(0, 7, 41);
        x.mend(2, 0, 4);
        x.mend(2, 4, 1);
        x.undo();
        x.undo();
        x.feed('7');
        x.feed('+');
        x.body(0);
        x.body(3);
        x.body(7);
        x.act(2, 3, 5);
        x.keep(1, 2);
        Check.row(x, 2, 0, 9, 15, 9, 0);
        Check.row(x, 3, 2, -7, 8, 1L << 31);
        Check.row(x, 4, 4, 1, 0);
        Check.row(x, 5, 3, Long.MAX_VALUE);
        return x;
    }

    static ToadWall tenBlocks() {
        ToadWall x = rich();
        for (int b = 4; b < 10; b++) x.block(b);
        return x;
    }

    static ToadWall fullTape() {
        ToadWall x = rich();
        for (int i = 2; i < 120; i++) x.feed('0' + i % 2 * -5);
        return x;
    }

    static ToadWall fiftyBodies() {
        ToadWall x = rich();
        for (int n = 3; n < 50; n++) x.body(n % 8);
        return x;
    }

    static ToadWall fortyChanges() {
        ToadWall x = rich();
        for (int i = 0; i < 45; i++) x.mend(i % 16, 6, (x.of(i % 16, 6) + 1) % 10);
        return x;
    }

    static final State[] ALL = {Edge::fresh, Edge::rich, Edge::tenBlocks, Edge::fullTape, Edge::fiftyBodies, Edge::fortyChanges};

    // ---- what is due

    /** In this state the call answers so, and changes nothing. */
    static void still(State state, String call, long want, Ask ask) {
        for (Look look : LOOKS) {
            ToadWall asked = state.make(), twin = state.make();
            Check.due(call, ask.of(asked), want);
            List<String> seen = new ArrayList<>(), due = new ArrayList<>();
            look.at(asked, seen);
            look.at(twin, due);
            for (int i = 0; i < due.size(); i++) {
                if (!due.get(i).equals(seen.get(i))) Check.holds(call + " changes nothing: " + seen.get(i) + ", it was " + due.get(i), false);
            }
        }
        Check.holds(call + " was asked", true);
    }

    /** In each state of ALL the call answers so, and changes nothing. */
    static void stillEverywhere(String call, long want, Ask ask) {
        for (State state : ALL) still(state, call, want, ask);
    }

    /** What is just below and just above the range, and far off, is refused, and changes nothing. */
    static void outside(State state, String call, int least, int most, long refusal, AskWith ask) {
        int[] values = {least - 1, most + 1, LEAST, MOST};
        for (int v : values) still(state, call + " with " + v, refusal, x -> ask.of(x, v));
    }

    // ---- what can be seen of a wall

    private static void tell(List<String> seen, String call, long answer) {
        seen.add(call + " = " + answer);
    }

    private static void numbers(ToadWall x, List<String> seen) {
        for (int what = 0; what <= 5; what++) tell(seen, "count(" + what + ")", x.count(what));
        for (int what = 0; what <= 4; what++) tell(seen, "led(" + what + ")", x.led(what));
        for (int what = 0; what <= 7; what++) {
            int most = what < 5 ? 10 : what < 7 ? 16 : 1;
            for (int number = 0; number < most; number++) tell(seen, "of(" + number + ", " + what + ")", x.of(number, what));
        }
        for (int b = 0; b < 10; b++) tell(seen, "goes(" + b + ")", x.goes(b));
        for (int i = 0; i < 16; i++) tell(seen, "trace(" + i + ")", x.trace(i));
    }

    private static void rows(ToadWall x, List<String> seen) {
        long unlikeBits = 0x7000000080008080L;
        for (int shelf = 0; shelf < 6; shelf++) {
            tell(seen, "taken(" + shelf + ", 0)", x.taken(shelf, 0));
            for (int i = 0; i < 6; i++) tell(seen, "element(" + shelf + ", " + i + ")", x.element(shelf, i));
            tell(seen, "put(" + shelf + ", 0, ..)", x.put(shelf, 0, unlikeBits));
            tell(seen, "the sort of " + shelf, x.element(shelf, 0));
        }
    }

    private static void changes(ToadWall x, List<String> seen) {
        for (int i = 0; i < 4; i++) tell(seen, "redo()", x.redo());
        for (int i = 0; i < 42; i++) tell(seen, "undo()", x.undo());
        numbers(x, seen);
    }

    private static void imageLaidBack(ToadWall x, List<String> seen) {
        tell(seen, "back()", x.back());
        numbers(x, seen);
    }

    private static void tapeAndLaw(ToadWall x, List<String> seen) {
        tell(seen, "feed('1')", x.feed('1'));
        tell(seen, "law()", x.law());
        for (int b = 0; b < 10; b++) tell(seen, "goes(" + b + ")", x.goes(b));
    }

    private static void numbersToCome(ToadWall x, List<String> seen) {
        for (int n = 0; n < 50; n += 7) for (int act = 0; act < 4; act++) tell(seen, "act(" + n + ", " + act + ", 9)", x.act(n, act, 9));
        tell(seen, "body(1)", x.body(1));
        tell(seen, "block(4)", x.block(4));
    }
}
