/** The boundary cases of promises 31 to 40, and of BODIES, ACTS, SHELVES and the host's REFUSALS in 'Terms'. */
final class ActsEdges {
    private static final String[] KINDS = {"TOAD", "MASON", "LIAS", "PROOF", "DEAN", "SLAB", "SAUCER", "BISHOP"};

    private ActsEdges() { }

    static void all() {
        kinds();
        ways();
        intsThatWrap();
        whoseBody();
        traceTerms();
        shelves();
        whatIsPutIn();
        refusals();
        body();
        act();
        trace();
        keep();
        row();
        put();
        element();
        shift();
        shiftPlaces();
        shiftRefused();
        taken();
        count();
    }

    /** A body of each KIND, its number the KIND's. */
    private static ToadWall eight() {
        ToadWall x = new ToadWall();
        for (int kind = 0; kind < 8; kind++) x.body(kind);
        return x;
    }

    private static final int[] ABOVE = {-1, 0, 0, 2, 1, 3, 0, 4};

    private static void kinds() {
        Doc.terms("======== 5 WORDS' ways are kept by call as BODIES 0 .. 49, of KINDS: 0 TOAD; 1 MASON under TOAD; 2 LIAS under TOAD; 3 PROOF under LIAS; "
            + "4 DEAN under MASON; 5 SLAB under PROOF; 6 SAUCER under TOAD; 7 BISHOP under DEAN.");
        ToadWall x = eight();
        for (int kind = 0; kind < 8; kind++) {
            x.keep(0, kind);
            for (int k = 0; k < 8; k++) {
                boolean under = false;
                for (int up = kind; up >= 0; up = ABOVE[up]) under |= up == k;
                Check.due("a " + KINDS[kind] + " for a " + KINDS[k], x.taken(0, k), under ? kind : -12);
            }
        }
        for (int n = 8; n <= 49; n++) Check.due("BODIES 0 .. 49", x.body(n % 8), n);
        Check.due("the fifty-first", x.body(0), Edge.FULL);
        x.keep(0, 49);
        Check.due("the last is a MASON", x.taken(0, 1), 1);
        Check.due("thinks of the last", x.act(49, 0, 0), 52);
        Check.due("thinks of the first", x.act(0, 0, 0), 0);
    }

    private static void ways() {
        Doc.terms("BODIES of acts: THINKS (an interface of TOAD): 1 thinks: x + n. TOAD: 10 says: thinks(x) * 2. 11 blinks: x ^ n. "
            + "TELLS (of TOAD): 2 tells: says(x) - blinks(1). MASON: 20 thinks: super.thinks(x) + 3. LIAS: 30 says: -super.says(x). "
            + "PROOF: 40 blinks: super.blinks(x) * 3. 41 says: super.says(x + 1). DEAN: 50 blinks: super.blinks(x) - thinks(2). "
            + "SLAB: 60 tells: super.tells(x) ^ 5. SAUCER: 70 thinks: super.thinks(x) * 2. BISHOP: 80 says: super.says(x) + blinks(2). "
            + "81 tells: super.tells(x) - 1.");
        ToadWall x = eight();
        int[] xs = {0, 1, -1, 2, 100, -100, Edge.MOST, Edge.LEAST, Edge.MOST - 1, Edge.LEAST + 1, 1 << 30, 0x55555555};
        for (int kind = 0; kind < 8; kind++) {
            for (int v : xs) {
                Check.due(KINDS[kind] + " thinks " + v, x.act(kind, 0, v), thinks(kind, kind, v));
                Check.due(KINDS[kind] + " says " + v, x.act(kind, 1, v), says(kind, kind, v));
                Check.due(KINDS[kind] + " blinks " + v, x.act(kind, 2, v), blinks(kind, kind, v));
                Check.due(KINDS[kind] + " tells " + v, x.act(kind, 3, v), tells(kind, kind, v));
            }
        }
        // The number counts, not the KIND: the fiftieth of each KIND.
        for (int kind = 0; kind < 8; kind++) {
            ToadWall fifty = new ToadWall();
            for (int n = 0; n < 50; n++) fifty.body(kind);
            Check.due(KINDS[kind] + " 49 tells 5", fifty.act(49, 3, 5), tells(kind, 49, 5));
            Check.due(KINDS[kind] + " 0 tells 5", fifty.act(0, 3, 5), tells(kind, 0, 5));
        }
    }

    // Each KIND's ways, written out whole.

    private static int thinks(int kind, int n, int x) {
        if (kind == 1 || kind == 4 || kind == 7) return x + n + 3;
        return kind == 6 ? (x + n) * 2 : x + n;
    }

    private static int blinks(int kind, int n, int x) {
        if (kind == 3 || kind == 5) return (x ^ n) * 3;
        return kind == 4 || kind == 7 ? (x ^ n) - (2 + n + 3) : x ^ n;
    }

    private static int says(int kind, int n, int x) {
        if (kind == 2) return -(thinks(kind, n, x) * 2);
        if (kind == 3 || kind == 5) return -(thinks(kind, n, x + 1) * 2);
        return thinks(kind, n, x) * 2 + (kind == 7 ? blinks(kind, n, 2) : 0);
    }

    private static int tells(int kind, int n, int x) {
        int told = says(kind, n, x) - blinks(kind, n, 1);
        return kind == 5 ? told ^ 5 : kind == 7 ? told - 1 : told;
    }

    private static void intsThatWrap() {
        Doc.terms("ACTS with x (an int that wraps): 0 thinks, 1 says, 2 blinks, 3 tells; n its number.");
        ToadWall x = eight();
        Check.due("thinks of MASON 1: the greatest int, 1 and 3", x.act(1, 0, Edge.MOST), Edge.LEAST + 3L);
        Check.due("says of TOAD 0: twice 1 << 30", x.act(0, 1, 1 << 30), Edge.LEAST);
        Check.due("says of TOAD 0: twice the least", x.act(0, 1, Edge.LEAST), 0);
        Check.due("says of PROOF 3: one more than the greatest", x.act(3, 1, Edge.MOST), -6);
        Check.due("says of LIAS 2: less the least", x.act(2, 1, (1 << 30) - 2), Edge.LEAST);
        Check.due("blinks of PROOF 3: three times", x.act(3, 2, 0x70000003), 0x50000000L);
        Check.due("blinks of TOAD 0", x.act(0, 2, -1), -1);
        Check.due("thinks of TOAD 0", x.act(0, 0, Edge.LEAST), Edge.LEAST);
    }

    private static void whoseBody() {
        Doc.terms("thinks(..) and so on (act 0 is thinks): the body of its own KIND, or of the next KIND above that has one; "
            + "super: from the KIND above the body's on.");
        traceDue(1, 1, 10, 20, 1);
        traceDue(4, 1, 10, 20, 1);
        traceDue(6, 1, 10, 70, 1);
        traceDue(5, 2, 40, 11);
        traceDue(5, 1, 41, 30, 10, 1);
        traceDue(7, 2, 50, 11, 20, 1);
        traceDue(7, 0, 20, 1);
    }

    private static void traceDue(int kind, int act, int... bodies) {
        ToadWall x = eight();
        x.act(kind, act, 3);
        Check.due(KINDS[kind] + ", act " + act + ": how many ran", x.count(5), bodies.length);
        for (int i = 0; i < bodies.length; i++) Check.due(KINDS[kind] + ", act " + act + ": trace(" + i + ")", x.trace(i), bodies[i]);
        Check.due(KINDS[kind] + ", act " + act + ": no more", x.trace(bodies.length), Edge.BAD);
    }

    private static void traceTerms() {
        Doc.terms("THE TRACE: numbers of the bodies that ran in the latest act(), as they began; the first 24 are kept.");
        // The longest act runs 14 bodies: all are kept, and the limit of 24 is never reached.
        traceDue(7, 3, 81, 2, 80, 10, 20, 1, 50, 11, 20, 1, 50, 11, 20, 1);
        traceDue(5, 3, 60, 2, 41, 30, 10, 1, 40, 11);
        traceDue(0, 0, 1);
        ToadWall x = eight();
        x.act(7, 3, 0);
        x.act(0, 2, 0);
        Check.due("the latest alone", x.count(5), 1);
        Check.due("the latest alone", x.trace(0), 11);
        Check.due("nothing of the one ahead", x.trace(1), Edge.BAD);
        for (int i : new int[] {13, 14, 23, 24}) Check.due("nothing at " + i, x.trace(i), Edge.BAD);
    }

    private static void shelves() {
        Doc.terms("SHELVES 0 .. 5 each hold nothing (at first), a TOAD (a BODY), or a ROW: of 0 bytes, 1 shorts, 2 ints, 3 longs, 4 booleans, "
            + "of 0 .. 60 elements, 0 at first (false);");
        for (int shelf = 0; shelf <= 5; shelf++) {
            ToadWall x = eight();
            Check.due("nothing at first, shelf " + shelf, x.taken(shelf, 0), -11);
            Check.due("nothing at first, shelf " + shelf, x.put(shelf, 0, 1), -11);
            Check.due("a TOAD", x.keep(shelf, 6), 1);
            Check.due("a TOAD", x.taken(shelf, 6), 6);
            for (int sort = 0; sort <= 4; sort++) {
                Check.due("a ROW of none, sort " + sort, x.row(shelf, sort, 0), 1);
                Check.due("it has none", x.put(shelf, 0, 1), -13);
                Check.due("a ROW of sixty, sort " + sort, x.row(shelf, sort, 60), 1);
                Check.due("the first is 0 at first", x.element(shelf, 0), 0);
                Check.due("the last is 0 at first", x.element(shelf, 59), 0);
                Check.due("the last", x.put(shelf, 59, 1), 1);
                Check.due("the last", x.element(shelf, 59), 1);
                Check.due("one more than the last", x.put(shelf, 60, 1), -13);
            }
            for (int other = 0; other <= 5; other++) if (other != shelf) Check.due("the others hold nothing", x.taken(other, 0), -11);
        }
        ToadWall anew = new ToadWall();
        anew.row(0, 3, 60);
        for (int i = 0; i < 60; i++) anew.put(0, i, -1);
        anew.row(0, 3, 60);
        for (int i = 0; i < 60; i++) Check.due("anew, 0 at " + i, anew.element(0, i), 0);
        anew.put(0, 1, 5);
        anew.row(0, 3, 1);
        anew.row(0, 3, 2);
        Check.due("anew, longer than before", anew.element(0, 1), 0);
    }

    private static void whatIsPutIn() {
        Doc.terms("what is put in keeps its lowest bits (a boolean: whether it is not 0; 1 or 0).");
        long[][] bytes = {{127, 127}, {128, -128}, {255, -1}, {256, 0}, {-128, -128}, {-129, 127}, {Long.MIN_VALUE, 0}, {Long.MAX_VALUE, -1}};
        long[][] shorts = {{32767, 32767}, {32768, -32768}, {65535, -1}, {65536, 0}, {-32768, -32768}, {-32769, 32767}, {Long.MAX_VALUE, -1}};
        long[][] ints = {{Edge.MOST, Edge.MOST}, {1L << 31, Edge.LEAST}, {(1L << 32) - 1, -1}, {1L << 32, 0}, {Edge.LEAST, Edge.LEAST},
            {Edge.LEAST - 1L, Edge.MOST}, {Long.MAX_VALUE, -1}};
        long[][] longs = {{Long.MAX_VALUE, Long.MAX_VALUE}, {Long.MIN_VALUE, Long.MIN_VALUE}, {-1, -1}, {1L << 32, 1L << 32}};
        long[][] booleans = {{0, 0}, {1, 1}, {2, 1}, {-1, 1}, {256, 1}, {1L << 32, 1}, {Long.MIN_VALUE, 1}, {Long.MAX_VALUE, 1}};
        long[][][] sorts = {bytes, shorts, ints, longs, booleans};
        for (int sort = 0; sort <= 4; sort++) {
            ToadWall x = new ToadWall();
            x.row(0, sort, 3);
            for (long[] v : sorts[sort]) {
                Check.due("put " + v[0] + " into sort " + sort, x.put(0, 1, v[0]), 1);
                Check.due(v[0] + " in sort " + sort, x.element(0, 1), v[1]);
                Check.due("the one ahead", x.element(0, 0), 0);
                Check.due("the one behind", x.element(0, 2), 0);
            }
        }
    }

    private static void refusals() {
        Doc.terms("The host's REFUSALS: -11 nothing is there where something is wanted; -12 it is of another kind; -13 a place that is not there; "
            + "-14 a size below 0.");
        Edge.still(Edge::rich, "put where nothing is", -11, w -> w.put(0, 0, 1));
        Edge.still(Edge::rich, "put where a TOAD is", -12, w -> w.put(1, 0, 1));
        Edge.still(Edge::rich, "put behind the last place", -13, w -> w.put(2, 4, 1));
        Edge.still(Edge::rich, "put ahead of the first place", -13, w -> w.put(2, -1, 1));
        Edge.still(Edge::rich, "a row of -1", -14, w -> w.row(2, 0, -1));
        Edge.still(Edge::rich, "taken where nothing is", -11, w -> w.taken(0, 0));
        Edge.still(Edge::rich, "taken where a ROW is", -12, w -> w.taken(2, 0));
        Edge.still(Edge::rich, "taken for a KIND that he is not under", -12, w -> w.taken(1, 2));
    }

    private static void body() {
        Doc.promise(31, "A TOAD of a KIND (0 .. 7) is kept: its number. BAD, FULL.");
        ToadWall x = new ToadWall();
        Check.due("KIND 0", x.body(0), 0);
        Check.due("KIND 7", x.body(7), 1);
        for (int n = 2; n <= 48; n++) x.body(1);
        Check.due("49", x.count(4), 49);
        Check.due("the fiftieth", x.body(7), 49);
        Check.due("50", x.count(4), 50);
        for (Edge.State state : Edge.ALL) Edge.outside(state, "body(v)", 0, 7, Edge.BAD, (w, v) -> w.body(v));
        for (int kind = 0; kind <= 7; kind++) {
            int its = kind;
            Edge.still(Edge::fiftyBodies, "body(" + kind + ")", Edge.FULL, w -> w.body(its));
        }
    }

    private static ToadWall withoutTrace() {
        ToadWall x = Edge.rich();
        x.act(-1, 0, 0);
        return x;
    }

    private static void act() {
        Doc.promise(32, "An ACT (0 .. 3) of a TOAD with x. 0, and no TRACE then: no such TOAD, ACT.");
        ToadWall x = Edge.rich();
        Check.due("ACT 0 of the first", x.act(0, 0, 7), 7);
        Check.due("ACT 3 of the last", x.act(2, 3, 7), tells(7, 2, 7));
        int[][] noSuch = {{-1, 0}, {3, 0}, {50, 0}, {Edge.LEAST, 0}, {Edge.MOST, 0}, {0, -1}, {0, 4}, {2, -1}, {2, 4}, {2, Edge.LEAST}, {2, Edge.MOST}, {3, 4}, {-1, -1}};
        for (int[] no : noSuch) {
            ToadWall y = Edge.rich();
            Check.due("the TRACE ahead of it", y.count(5), 14);
            Check.due("act(" + no[0] + ", " + no[1] + ", 7)", y.act(no[0], no[1], 7), 0);
            Check.due("none ran", y.count(5), 0);
            for (int i = 0; i <= 14; i++) Check.due("no TRACE", y.trace(i), Edge.BAD);
            Edge.still(ActsEdges::withoutTrace, "and nothing else: act(" + no[0] + ", " + no[1] + ", 7)", 0, w -> w.act(no[0], no[1], 7));
        }
        Edge.still(Edge::fresh, "none is kept", 0, w -> w.act(0, 0, 7));
        ToadWall fifty = Edge.fiftyBodies();
        Check.due("the fiftieth thinks", fifty.act(49, 0, 1), 1 + 49 + 3);
        Check.due("no fifty-first", fifty.act(50, 0, 1), 0);
    }

    private static void trace() {
        Doc.promise(33, "THE TRACE's i-th body. BAD.");
        ToadWall x = Edge.rich();
        Check.due("the first", x.trace(0), 81);
        Check.due("the last", x.trace(13), 1);
        Edge.outside(Edge::rich, "trace(v)", 0, 13, Edge.BAD, (w, v) -> w.trace(v));
        Edge.outside(Edge::rich, "trace(v)", 0, 23, Edge.BAD, (w, v) -> w.trace(v));
        for (int i : new int[] {-1, 0, 1, 23, 24}) Edge.still(Edge::fresh, "no act() yet, trace(" + i + ")", Edge.BAD, w -> w.trace(i));
        ToadWall y = eight();
        y.act(0, 0, 1);
        Check.due("of one, the first", y.trace(0), 1);
        Check.due("of one, the second", y.trace(1), Edge.BAD);
        Check.due("of one, ahead of the first", y.trace(-1), Edge.BAD);
    }

    private static void keep() {
        Doc.promise(34, "A SHELF holds nothing (body -1), or a TOAD: 1. BAD.");
        ToadWall x = Edge.rich();
        for (int shelf = 0; shelf <= 5; shelf++) {
            Check.due("the first TOAD on " + shelf, x.keep(shelf, 0), 1);
            Check.due("it is there", x.taken(shelf, 0), 0);
            Check.due("the last TOAD on " + shelf, x.keep(shelf, 2), 1);
            Check.due("it is there", x.taken(shelf, 0), 7);
            Check.due("it is no ROW", x.put(shelf, 0, 1), -12);
            Check.due("nothing on " + shelf, x.keep(shelf, -1), 1);
            Check.due("nothing is there", x.taken(shelf, 0), -11);
            Check.due("nothing again", x.keep(shelf, -1), 1);
        }
        Check.due("no TOAD is gone by it", x.count(4), 3);
        for (Edge.State state : Edge.ALL) {
            Edge.outside(state, "keep(v, -1)", 0, 5, Edge.BAD, (w, v) -> w.keep(v, -1));
            Edge.outside(state, "keep(v, 0)", 0, 5, Edge.BAD, (w, v) -> w.keep(v, 0));
            Edge.outside(state, "keep(1, v)", -1, 49, Edge.BAD, (w, v) -> w.keep(1, v));
            Edge.outside(state, "keep(2, v)", -1, 49, Edge.BAD, (w, v) -> w.keep(2, v));
        }
        Edge.outside(Edge::rich, "keep(1, v)", -1, 2, Edge.BAD, (w, v) -> w.keep(1, v));
        Edge.still(Edge::fresh, "none is kept", Edge.BAD, w -> w.keep(0, 0));
        Edge.still(Edge::fresh, "nothing, where nothing is", 1, w -> w.keep(5, -1));
        ToadWall fifty = Edge.fiftyBodies();
        Check.due("the fiftieth", fifty.keep(0, 49), 1);
        Check.due("a MASON", fifty.taken(0, 0), 1);
    }

    private static void row() {
        Doc.promise(35, "A SHELF holds a ROW: 1. BAD (sort, n above 60); -14.");
        for (Edge.State state : Edge.ALL) {
            Edge.outside(state, "row(v, 0, 3)", 0, 5, Edge.BAD, (w, v) -> w.row(v, 0, 3));
            Edge.outside(state, "row(2, v, 3)", 0, 4, Edge.BAD, (w, v) -> w.row(2, v, 3));
            for (int sort = 0; sort <= 4; sort++) {
                int its = sort;
                for (int n : new int[] {61, 62, Edge.MOST}) Edge.still(state, "row(2, " + sort + ", " + n + ")", Edge.BAD, w -> w.row(2, its, n));
                for (int n : new int[] {-1, -2, Edge.LEAST}) Edge.still(state, "row(2, " + sort + ", " + n + ")", -14, w -> w.row(2, its, n));
            }
            for (int n : new int[] {-1, Edge.LEAST}) {
                Edge.still(state, "no such sort, " + n, Edge.BAD, w -> w.row(2, 5, n));
                Edge.still(state, "no such sort, " + n, Edge.BAD, w -> w.row(2, -1, n));
                Edge.still(state, "no such SHELF, " + n, Edge.BAD, w -> w.row(6, 0, n));
                Edge.still(state, "no such SHELF, " + n, Edge.BAD, w -> w.row(-1, 0, n));
            }
        }
        for (int shelf = 0; shelf <= 5; shelf++) {
            ToadWall x = Edge.rich();
            Check.due("a ROW of none on " + shelf, x.row(shelf, 0, 0), 1);
            Check.due("no TOAD any more", x.taken(shelf, 0), -12);
            Check.due("no element", x.element(shelf, 0), Edge.NONE);
            Check.due("a ROW of one", x.row(shelf, 4, 1), 1);
            Check.due("the first", x.put(shelf, 0, 9), 1);
            Check.due("no second", x.put(shelf, 1, 9), -13);
            Check.due("a ROW of sixty", x.row(shelf, 1, 60), 1);
            Check.due("the last", x.put(shelf, 59, 9), 1);
        }
    }

    private static void put() {
        Doc.promise(36, "Element i of a ROW becomes v: 1. BAD, -11, -12, -13.");
        ToadWall x = Edge.rich();
        Check.due("the first", x.put(2, 0, 1), 1);
        Check.due("the last", x.put(2, 3, 2), 1);
        Check.due("the first", x.element(2, 0), 1);
        Check.due("those between", x.element(2, 1) * 100 + x.element(2, 2), 1509);
        Check.due("the last", x.element(2, 3), 2);
        for (Edge.State state : Edge.ALL) {
            Edge.outside(state, "put(v, 0, 1)", 0, 5, Edge.BAD, (w, v) -> w.put(v, 0, 1));
            Edge.outside(state, "put(v, -1, 1)", 0, 5, Edge.BAD, (w, v) -> w.put(v, -1, 1));
        }
        int[] places = {-1, 0, 4, Edge.LEAST, Edge.MOST};
        for (int i : places) {
            Edge.still(Edge::rich, "nothing, place " + i, -11, w -> w.put(0, i, 1));
            Edge.still(Edge::rich, "a TOAD, place " + i, -12, w -> w.put(1, i, 1));
        }
        int[] sizes = {0, 0, 4, 3, 2, 1};
        for (int shelf = 2; shelf <= 5; shelf++) {
            int its = shelf;
            Edge.outside(Edge::rich, "put(" + shelf + ", v, 1)", 0, sizes[shelf] - 1, -13, (w, v) -> w.put(its, v, 1));
        }
        Edge.still(() -> {
            ToadWall w = Edge.rich();
            w.row(2, 0, 0);
            return w;
        }, "a ROW of none", -13, w -> w.put(2, 0, 1));
    }

    private static void element() {
        Doc.promise(37, "Element i of a ROW; Long.MIN_VALUE: BAD, -11 to -13.");
        ToadWall x = Edge.rich();
        Check.due("the first", x.element(2, 0), 9);
        Check.due("the last", x.element(2, 3), 0);
        Check.due("the last but one", x.element(2, 2), 9);
        Check.due("the last of ints", x.element(3, 2), Edge.LEAST);
        Check.due("the greatest long", x.element(5, 0), Long.MAX_VALUE);
        for (Edge.State state : Edge.ALL) Edge.outside(state, "element(v, 0)", 0, 5, Edge.NONE, (w, v) -> w.element(v, 0));
        int[] places = {-1, 0, 1, 4, 60, Edge.LEAST, Edge.MOST};
        for (int i : places) {
            Edge.still(Edge::rich, "nothing, place " + i, Edge.NONE, w -> w.element(0, i));
            Edge.still(Edge::rich, "a TOAD, place " + i, Edge.NONE, w -> w.element(1, i));
        }
        int[] sizes = {0, 0, 4, 3, 2, 1};
        for (int shelf = 2; shelf <= 5; shelf++) {
            int its = shelf;
            Edge.outside(Edge::rich, "element(" + shelf + ", v)", 0, sizes[shelf] - 1, Edge.NONE, (w, v) -> w.element(its, v));
        }
        ToadWall gone = Edge.rich();
        gone.keep(2, -1);
        Check.due("a ROW that is gone", gone.element(2, 0), Edge.NONE);
        gone.keep(3, 0);
        Check.due("a ROW that a TOAD took the place of", gone.element(3, 0), Edge.NONE);
    }

    private static ToadWall twoRows(int sort) {
        return Check.row(Check.row(eight(), 0, sort, 1, 0, 1, 1, 0), 1, sort, 0, 1, 0);
    }

    private static void rowDue(String what, ToadWall x, int shelf, long... want) {
        for (int i = 0; i < want.length; i++) Check.due(what + ", place " + i, x.element(shelf, i), want[i]);
        Check.due(what + ", no more", x.put(shelf, want.length, 0), -13);
    }

    private static void shift() {
        Doc.promise(38, "n elements of a ROW from i on come to another one (or the same) from j on, as they all were before: n.");
        for (int sort = 0; sort <= 4; sort++) {
            ToadWall x = twoRows(sort);
            Check.due("the first three to all", x.shift(0, 0, 1, 0, 3), 3);
            rowDue("all", x, 1, 1, 0, 1);
            Check.due("the last one to the last", x.shift(0, 4, 1, 2, 1), 1);
            rowDue("the last", x, 1, 1, 0, 0);
            Check.due("the last one to the first", x.shift(0, 4, 1, 0, 1), 1);
            rowDue("the first", x, 1, 0, 0, 0);
            rowDue("the one they came from", x, 0, 1, 0, 1, 1, 0);
            Check.due("none", x.shift(0, 0, 1, 0, 0), 0);
            Check.due("none, behind the last places", x.shift(0, 5, 1, 3, 0), 0);
            rowDue("as they were", x, 1, 0, 0, 0);
        }
        ToadWall x = Check.row(eight(), 0, 3, 1, 2, 3, 4, 5);
        Check.due("on by one", x.shift(0, 0, 0, 1, 4), 4);
        rowDue("as they all were before", x, 0, 1, 1, 2, 3, 4);
        Check.due("back by one", x.shift(0, 1, 0, 0, 4), 4);
        rowDue("as they all were before", x, 0, 1, 2, 3, 4, 4);
        Check.due("all to where they are", x.shift(0, 0, 0, 0, 5), 5);
        rowDue("as they were", x, 0, 1, 2, 3, 4, 4);
        ToadWall sixty = eight();
        sixty.row(4, 2, 60);
        sixty.row(5, 2, 60);
        for (int i = 0; i < 60; i++) sixty.put(4, i, i + 1);
        Check.due("all sixty", sixty.shift(4, 0, 5, 0, 60), 60);
        Check.due("the first of them", sixty.element(5, 0), 1);
        Check.due("the last of them", sixty.element(5, 59), 60);
        Check.due("59 on by one", sixty.shift(5, 0, 5, 1, 59), 59);
        for (int i = 1; i < 60; i++) Check.due("as they all were before, place " + i, sixty.element(5, i), i);
        Check.due("of rows of none", Check.row(Check.row(eight(), 0, 1), 1, 1).shift(0, 0, 1, 0, 0), 0);
    }

    private static void shiftPlaces() {
        int[][] noPlace = {{-1, 0, 1}, {0, -1, 1}, {-1, -1, 0}, {-1, 0, 0}, {0, -1, 0}, {5, 0, 1}, {0, 3, 1}, {6, 0, 0}, {0, 4, 0}, {4, 0, 2}, {3, 0, 3}, {0, 2, 2}, {0, 1, 3},
            {0, 0, 4}, {0, 0, 5}, {0, 0, 6}, {0, 0, -1}, {1, 1, -1}, {5, 3, -1}, {0, 0, Edge.LEAST}, {0, 0, Edge.MOST}, {Edge.MOST, 0, 1}, {0, Edge.MOST, 1},
            {Edge.MOST, Edge.MOST, Edge.MOST}, {1, 1, Edge.MOST}, {Edge.LEAST, 0, 1}, {Edge.MOST, 0, Edge.LEAST}, {Edge.LEAST, Edge.LEAST, Edge.LEAST}};
        for (int[] p : noPlace) {
            Edge.still(() -> twoRows(2), "shift(0, " + p[0] + ", 1, " + p[1] + ", " + p[2] + ")", -13, w -> w.shift(0, p[0], 1, p[1], p[2]));
        }
        Edge.still(() -> twoRows(2), "within one, past its end", -13, w -> w.shift(0, 0, 0, 1, 5));
        Edge.still(() -> twoRows(2), "within one, from past its end", -13, w -> w.shift(0, 1, 0, 0, 5));
    }

    private static void shiftRefused() {
        Doc.promise(38, "BAD, -11 (either), -12 (no ROWS, or of unlike sorts), -13.");
        for (Edge.State state : Edge.ALL) {
            Edge.outside(state, "shift(v, 0, 2, 0, 1)", 0, 5, Edge.BAD, (w, v) -> w.shift(v, 0, 2, 0, 1));
            Edge.outside(state, "shift(2, 0, v, 0, 1)", 0, 5, Edge.BAD, (w, v) -> w.shift(2, 0, v, 0, 1));
            Edge.outside(state, "shift(v, 0, v, 0, 0)", 0, 5, Edge.BAD, (w, v) -> w.shift(v, 0, v, 0, 0));
        }
        for (int shelf = 0; shelf <= 5; shelf++) {
            int its = shelf;
            for (int n : new int[] {0, 1, -1, 99}) {
                Edge.still(Edge::rich, "from nothing to " + shelf + ", " + n, -11, w -> w.shift(0, 0, its, 0, n));
                Edge.still(Edge::rich, "from " + shelf + " to nothing, " + n, -11, w -> w.shift(its, 0, 0, 0, n));
                if (shelf > 0) Edge.still(Edge::rich, "from a TOAD to " + shelf + ", " + n, -12, w -> w.shift(1, 0, its, 0, n));
                if (shelf > 0) Edge.still(Edge::rich, "from " + shelf + " to a TOAD, " + n, -12, w -> w.shift(its, 0, 1, 0, n));
            }
        }
        for (int sort = 0; sort <= 4; sort++) {
            for (int other = 0; other <= 4; other++) {
                if (other == sort) continue;
                int one = sort, two = other;
                Edge.still(() -> Check.row(twoRows(one), 1, two, 1, 0, 0), "sort " + sort + " to sort " + other, -12, w -> w.shift(0, 0, 1, 0, 1));
                Edge.still(() -> Check.row(twoRows(one), 1, two, 1, 0, 0), "none of them", -12, w -> w.shift(0, 0, 1, 0, 0));
            }
        }
    }

    private static void taken() {
        Doc.promise(39, "What a SHELF holds, taken for a TOAD of KIND k (0 .. 7), or under it: its KIND. BAD, -11, -12.");
        ToadWall x = eight();
        for (int shelf = 0; shelf <= 5; shelf++) {
            x.keep(shelf, 0);
            Check.due("a TOAD for a TOAD", x.taken(shelf, 0), 0);
            Check.due("a TOAD for a BISHOP", x.taken(shelf, 7), -12);
            x.keep(shelf, 7);
            Check.due("a BISHOP for a BISHOP", x.taken(shelf, 7), 7);
            Check.due("a BISHOP for a TOAD", x.taken(shelf, 0), 7);
        }
        for (Edge.State state : Edge.ALL) {
            Edge.outside(state, "taken(v, 0)", 0, 5, Edge.BAD, (w, v) -> w.taken(v, 0));
            for (int shelf = 0; shelf <= 5; shelf++) {
                int its = shelf;
                Edge.outside(state, "taken(" + shelf + ", v)", 0, 7, Edge.BAD, (w, v) -> w.taken(its, v));
            }
        }
        for (int k = 0; k <= 7; k++) {
            int its = k;
            Edge.still(Edge::rich, "nothing, for KIND " + k, -11, w -> w.taken(0, its));
            for (int shelf = 2; shelf <= 5; shelf++) {
                int of = shelf;
                Edge.still(Edge::rich, "a ROW, for KIND " + k, -12, w -> w.taken(of, its));
            }
            boolean under = k == 0 || k == 1 || k == 4 || k == 7;
            Edge.still(Edge::rich, "a BISHOP, for KIND " + k, under ? 7 : -12, w -> w.taken(1, its));
        }
    }

    private static void count() {
        Doc.promise(40, "How many: 0 BLOCKS, 1 OPEN, 2 bytes on THE TAPE, 3 changes that may be UNDONE, 4 BODIES, 5 bodies that ran in the latest act(). BAD.");
        int[][] want = {{0, 0, 0, 0, 0, 0}, {4, 2, 2, 5, 3, 14}, {10, 2, 2, 5, 3, 14}, {4, 2, 120, 5, 3, 14}, {4, 2, 2, 5, 50, 14}, {4, 2, 2, 40, 3, 14}};
        for (int s = 0; s < want.length; s++) {
            for (int what = 0; what <= 5; what++) {
                int its = what;
                Edge.still(Edge.ALL[s], "count(" + what + ") in state " + s, want[s][what], w -> w.count(its));
            }
            Edge.outside(Edge.ALL[s], "count(v)", 0, 5, Edge.BAD, (w, v) -> w.count(v));
        }
        ToadWall x = Check.wall(0, 0, 0, 0, 0, 0, 0, 0, 0, 0);
        for (int b = 0; b <= 9; b++) {
            Check.due(b + " are OPEN", x.count(1), b);
            if (b % 2 == 0) x.open(b);
            else x.mend(b, 3, 1);
        }
        Check.due("all are OPEN", x.count(1), 10);
        x.hours(99);
        Check.due("OPEN, and DEAD", x.count(1), 10);
    }
}
