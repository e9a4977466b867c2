/** Promises 31 to 40: acts, shelves. */
public final class ActsTest {
    public static void main(String[] args) {
        body();
        act();
        actWrongly();
        trace();
        keep();
        row();
        put();
        element();
        shift();
        shiftWrongly();
        taken();
        count();
        Check.end("ActsTest");
    }

    private static ToadWall allKinds() {
        ToadWall x = new ToadWall();
        for (int kind = 0; kind < 8; kind++) x.body(kind);
        return x;
    }

    private static void body() {
        ToadWall x = new ToadWall();
        Check.due("31: body(-1)", x.body(-1), ToadWall.BAD);
        Check.due("31: body(8)", x.body(8), ToadWall.BAD);
        for (int n = 0; n < 50; n++) Check.due("31: body", x.body(n % 8), n);
        Check.due("31: FULL", x.body(0), ToadWall.FULL);
        Check.due("31: BAD comes ahead of FULL", x.body(8), ToadWall.BAD);
        Check.due("31: count(4)", x.count(4), 50);
        Check.due("31: thinks of the last, a MASON", x.act(49, 0, 1), 1 + 49 + 3);
    }

    /** By kind k with number k: thinks, says, blinks, tells of 10. */
    private static void act() {
        ToadWall x = allKinds();
        int[][] want = {
            {10, 20, 10, 20 - 1},
            {14, 28, 11, 28 - 0},
            {12, -24, 8, -24 - 3},
            {13, -28, (10 ^ 3) * 3, -28 - (1 ^ 3) * 3},
            {17, 34, (10 ^ 4) - 9, 34 - ((1 ^ 4) - 9)},
            {15, -32, (10 ^ 5) * 3, (-32 - (1 ^ 5) * 3) ^ 5},
            {32, 64, 10 ^ 6, 64 - (1 ^ 6)},
            {20, 40 + ((2 ^ 7) - 12), (10 ^ 7) - 12, 40 + ((2 ^ 7) - 12) - ((1 ^ 7) - 12) - 1}};
        for (int kind = 0; kind < 8; kind++) {
            for (int act = 0; act < 4; act++) Check.due("32: act(" + kind + ", " + act + ", 10)", x.act(kind, act, 10), want[kind][act]);
        }
        Check.due("32: an int that wraps", x.act(0, 1, 1 << 30), Integer.MIN_VALUE);
        Check.due("32: an int that wraps", x.act(1, 0, Integer.MAX_VALUE), Integer.MIN_VALUE + 3);
        Check.due("32: an int that wraps", x.act(3, 1, Integer.MAX_VALUE), -2 * (Integer.MIN_VALUE + 3));
    }

    private static void actWrongly() {
        ToadWall x = allKinds();
        int[][] wrong = {{8, 0}, {-1, 0}, {0, 4}, {0, -1}, {Integer.MAX_VALUE, Integer.MIN_VALUE}};
        for (int[] w : wrong) {
            x.act(7, 3, 10);
            Check.due("32: ran", x.count(5), 14);
            Check.due("32: act(" + w[0] + ", " + w[1] + ", 5)", x.act(w[0], w[1], 5), 0);
            Check.due("32: no TRACE then", x.count(5), 0);
            Check.due("32: no TRACE then", x.trace(0), ToadWall.BAD);
        }
    }

    private static void trace() {
        ToadWall x = allKinds();
        Check.due("33: none yet", x.trace(0), ToadWall.BAD);
        int[][][] want = {
            {{1}, {10, 1}, {11}, {2, 10, 1, 11}},
            {{20, 1}, {10, 20, 1}, {11}, {2, 10, 20, 1, 11}},
            {{1}, {30, 10, 1}, {11}, {2, 30, 10, 1, 11}},
            {{1}, {41, 30, 10, 1}, {40, 11}, {2, 41, 30, 10, 1, 40, 11}},
            {{20, 1}, {10, 20, 1}, {50, 11, 20, 1}, {2, 10, 20, 1, 50, 11, 20, 1}},
            {{1}, {41, 30, 10, 1}, {40, 11}, {60, 2, 41, 30, 10, 1, 40, 11}},
            {{70, 1}, {10, 70, 1}, {11}, {2, 10, 70, 1, 11}},
            {{20, 1}, {80, 10, 20, 1, 50, 11, 20, 1}, {50, 11, 20, 1}, {81, 2, 80, 10, 20, 1, 50, 11, 20, 1, 50, 11, 20, 1}}};
        for (int kind = 0; kind < 8; kind++) {
            for (int act = 0; act < 4; act++) {
                int[] bodies = want[kind][act];
                x.act(kind, act, 3);
                Check.due("40: count(5) of " + kind + ", " + act, x.count(5), bodies.length);
                for (int i = 0; i < bodies.length; i++) Check.due("33: trace(" + i + ") of " + kind + ", " + act, x.trace(i), bodies[i]);
                Check.due("33: no more", x.trace(bodies.length), ToadWall.BAD);
                Check.due("33: trace(-1)", x.trace(-1), ToadWall.BAD);
            }
        }
    }

    private static void keep() {
        ToadWall x = allKinds();
        Check.due("34: keep(0, 7)", x.keep(0, 7), 1);
        Check.due("34: a BISHOP", x.taken(0, 0), 7);
        Check.due("34: another one", x.keep(0, 2), 1);
        Check.due("34: a LIAS", x.taken(0, 0), 2);
        Check.due("34: keep(0, -1)", x.keep(0, -1), 1);
        Check.due("34: nothing", x.taken(0, 0), -11);
        Check.due("34: keep(5, 0)", x.keep(5, 0), 1);
        Check.due("34: keep(5, 8)", x.keep(5, 8), ToadWall.BAD);
        Check.due("34: keep(5, -2)", x.keep(5, -2), ToadWall.BAD);
        Check.due("34: keep(6, 0)", x.keep(6, 0), ToadWall.BAD);
        Check.due("34: keep(-1, -1)", x.keep(-1, -1), ToadWall.BAD);
        Check.due("34: as it was", x.taken(5, 0), 0);
        x.row(5, 0, 3);
        Check.due("34: a row is gone", x.keep(5, -1) * x.put(5, 0, 1), -11);
    }

    private static void row() {
        ToadWall x = allKinds();
        for (int sort = 0; sort < 5; sort++) {
            Check.due("35: row(" + sort + ", " + sort + ", 60)", x.row(sort, sort, 60), 1);
            Check.due("35: 0 at first", x.element(sort, 59), 0);
            Check.due("35: 60 elements", x.put(sort, 60, 1), -13);
        }
        x.put(0, 0, 5);
        Check.due("35: anew", x.row(0, 0, 1), 1);
        Check.due("35: 0 at first", x.element(0, 0), 0);
        Check.due("35: one element", x.put(0, 1, 1), -13);
        Check.due("35: none at all", x.row(0, 0, 0) * x.put(0, 0, 1), -13);
        x.keep(1, 3);
        Check.due("35: in place of a toad", x.row(1, 3, 2) * x.put(1, 1, 9), 1);
        Check.due("35: row(0, 5, 1)", x.row(0, 5, 1), ToadWall.BAD);
        Check.due("35: row(0, -1, 1)", x.row(0, -1, 1), ToadWall.BAD);
        Check.due("35: row(6, 0, 1)", x.row(6, 0, 1), ToadWall.BAD);
        Check.due("35: row(-1, 0, 1)", x.row(-1, 0, 1), ToadWall.BAD);
        Check.due("35: row(1, 0, 61)", x.row(1, 0, 61), ToadWall.BAD);
        Check.due("35: row(1, 0, -1)", x.row(1, 0, -1), -14);
        Check.due("35: BAD comes ahead of -14", x.row(1, 5, -1), ToadWall.BAD);
        Check.due("35: BAD comes ahead of -14", x.row(6, 0, -1), ToadWall.BAD);
        Check.due("35: what is refused changes nothing", x.element(1, 1), 9);
    }

    private static void put() {
        ToadWall x = allKinds();
        long v = 0x123456789ABCDEFFL;
        long[] kept = {(byte) v, (short) v, (int) v, v, 1};
        for (int sort = 0; sort < 5; sort++) {
            x.row(sort, sort, 2);
            Check.due("36: put", x.put(sort, 1, v), 1);
            Check.due("36: its lowest bits of sort " + sort, x.element(sort, 1), kept[sort]);
            Check.due("36: that one alone", x.element(sort, 0), 0);
        }
        x.put(0, 0, 128);
        Check.due("36: a byte", x.element(0, 0), -128);
        x.put(1, 0, 32768);
        Check.due("36: a short", x.element(1, 0), -32768);
        x.put(2, 0, 1L << 31);
        Check.due("36: an int", x.element(2, 0), Integer.MIN_VALUE);
        x.put(4, 0, 256);
        Check.due("36: a boolean", x.element(4, 0), 1);
        x.put(4, 0, 1L << 40);
        Check.due("36: a boolean", x.element(4, 0), 1);
        x.put(4, 0, 0);
        Check.due("36: a boolean", x.element(4, 0), 0);
        Check.due("36: put(-1, 0, 1)", x.put(-1, 0, 1), ToadWall.BAD);
        Check.due("36: put(6, 0, 1)", x.put(6, 0, 1), ToadWall.BAD);
        Check.due("36: -11 comes ahead of -13", x.put(5, 9, 1), -11);
        x.keep(5, 0);
        Check.due("36: -12 comes ahead of -13", x.put(5, -1, 1), -12);
        Check.due("36: put(0, 2, 1)", x.put(0, 2, 1), -13);
        Check.due("36: put(0, -1, 1)", x.put(0, -1, 1), -13);
    }

    private static void element() {
        ToadWall x = Check.row(allKinds(), 2, 3, 7, Long.MAX_VALUE, -1);
        Check.due("37: element(2, 0)", x.element(2, 0), 7);
        Check.due("37: element(2, 1)", x.element(2, 1), Long.MAX_VALUE);
        Check.due("37: element(2, 2)", x.element(2, 2), -1);
        Check.due("37: element(2, 3)", x.element(2, 3), Long.MIN_VALUE);
        Check.due("37: element(2, -1)", x.element(2, -1), Long.MIN_VALUE);
        Check.due("37: element(6, 0)", x.element(6, 0), Long.MIN_VALUE);
        Check.due("37: element(-1, 0)", x.element(-1, 0), Long.MIN_VALUE);
        Check.due("37: nothing", x.element(0, 0), Long.MIN_VALUE);
        x.keep(2, 0);
        Check.due("37: a toad", x.element(2, 0), Long.MIN_VALUE);
    }

    private static void rowDue(String what, ToadWall x, int shelf, long... want) {
        for (int i = 0; i < want.length; i++) Check.due(what + " [" + i + "]", x.element(shelf, i), want[i]);
        Check.due(what + " has no more", x.element(shelf, want.length), Long.MIN_VALUE);
    }

    private static void shift() {
        ToadWall x = Check.row(Check.row(allKinds(), 0, 2, 1, 2, 3, 4, 5), 1, 2, 6, 7, 8);
        Check.due("38: shift(0, 1, 1, 0, 2)", x.shift(0, 1, 1, 0, 2), 2);
        rowDue("38: the other one", x, 1, 2, 3, 8);
        rowDue("38: the one", x, 0, 1, 2, 3, 4, 5);
        Check.due("38: on by one", x.shift(0, 0, 0, 1, 4), 4);
        rowDue("38: as they were before", x, 0, 1, 1, 2, 3, 4);
        Check.due("38: back by two", x.shift(0, 2, 0, 0, 3), 3);
        rowDue("38: as they were before", x, 0, 2, 3, 4, 3, 4);
        Check.due("38: none at the end", x.shift(0, 5, 1, 3, 0), 0);
        Check.due("38: all", x.shift(1, 0, 0, 2, 3), 3);
        rowDue("38: all", x, 0, 2, 3, 2, 3, 8);
        for (int sort = 0; sort < 5; sort++) {
            Check.row(Check.row(x, 2, sort, 1, 0), 3, sort, 0, 0, 0);
            Check.due("38: sort " + sort, x.shift(2, 0, 3, 1, 2), 2);
            rowDue("38: sort " + sort, x, 3, 0, 1, 0);
        }
    }

    private static void shiftWrongly() {
        ToadWall x = Check.row(Check.row(allKinds(), 0, 2, 1, 2, 3), 1, 2, 6, 7);
        x.row(2, 1, 3);
        x.keep(3, 0);
        Check.due("38: shelf -1", x.shift(-1, 0, 4, 0, 1), ToadWall.BAD);
        Check.due("38: shelf 6", x.shift(6, 0, 4, 0, 1), ToadWall.BAD);
        Check.due("38: other -1", x.shift(4, 0, -1, 0, 1), ToadWall.BAD);
        Check.due("38: other 6", x.shift(4, 0, 6, 0, 1), ToadWall.BAD);
        Check.due("38: nothing", x.shift(4, 0, 0, 0, 1), -11);
        Check.due("38: nothing", x.shift(0, 0, 4, 0, 1), -11);
        Check.due("38: -11 comes ahead of -12", x.shift(3, 0, 4, 0, 1), -11);
        Check.due("38: a toad", x.shift(3, 0, 0, 0, 1), -12);
        Check.due("38: a toad", x.shift(0, 0, 3, 0, 1), -12);
        x.row(5, 0, 3);
        Check.due("38: a toad, and bytes", x.shift(3, 0, 5, 0, 1), -12);
        Check.due("38: bytes, and a toad", x.shift(5, 0, 3, 0, 1), -12);
        x.row(3, 0, 3);
        x.keep(3, 0);
        Check.due("38: a toad where bytes were", x.shift(3, 0, 5, 0, 1), -12);
        Check.due("38: a toad where bytes were", x.shift(5, 0, 3, 0, 1), -12);
        Check.due("38: two toads", x.shift(3, 0, 3, 0, 0), -12);
        Check.due("38: unlike sorts", x.shift(0, 0, 2, 0, 1), -12);
        Check.due("38: -12 comes ahead of -13", x.shift(0, 9, 2, 0, 1), -12);
        int[][] noPlace = {{-1, 0, 1}, {0, -1, 1}, {0, 0, -1}, {3, 0, 1}, {0, 2, 1}, {2, 0, 2}, {0, 1, 2}, {0, 0, 3}, {4, 0, 0}, {0, 3, 0},
            {Integer.MAX_VALUE, 0, 1}, {1, 1, Integer.MAX_VALUE}, {Integer.MAX_VALUE, 0, Integer.MIN_VALUE}};
        for (int[] p : noPlace) Check.due("38: " + p[0] + ", " + p[1] + ", " + p[2], x.shift(0, p[0], 1, p[1], p[2]), -13);
        rowDue("38: what is refused changes nothing", x, 1, 6, 7);
    }

    private static void taken() {
        ToadWall x = allKinds();
        int[] under = {255, 1 << 1 | 1 << 4 | 1 << 7, 1 << 2 | 1 << 3 | 1 << 5, 1 << 3 | 1 << 5, 1 << 4 | 1 << 7, 1 << 5, 1 << 6, 1 << 7};
        for (int kind = 0; kind < 8; kind++) {
            x.keep(4, kind);
            for (int k = 0; k < 8; k++) {
                Check.due("39: a " + kind + " taken for a " + k, x.taken(4, k), (under[k] >> kind & 1) == 1 ? kind : -12);
            }
        }
        Check.due("39: nothing", x.taken(0, 0), -11);
        x.row(0, 0, 5);
        Check.due("39: a row", x.taken(0, 0), -12);
        Check.due("39: taken(4, 8)", x.taken(4, 8), ToadWall.BAD);
        Check.due("39: taken(4, -1)", x.taken(4, -1), ToadWall.BAD);
        Check.due("39: taken(6, 0)", x.taken(6, 0), ToadWall.BAD);
        Check.due("39: taken(-1, 0)", x.taken(-1, 0), ToadWall.BAD);
    }

    private static void count() {
        ToadWall x = Check.wall(1, 2, 3);
        x.open(1);
        x.mend(2, 3, 1);
        x.feed(65);
        x.feed(66);
        for (int i = 0; i < 4; i++) x.body(0);
        x.act(0, 3, 0);
        x.mend(5, 5, 5);
        x.mend(5, 5, 6);
        x.undo();
        int[] want = {3, 2, 2, 2, 4, 4};
        for (int what = 0; what < 6; what++) Check.due("40: count(" + what + ")", x.count(what), want[what]);
        Check.due("40: count(6)", x.count(6), ToadWall.BAD);
        Check.due("40: count(-1)", x.count(-1), ToadWall.BAD);
    }
}
