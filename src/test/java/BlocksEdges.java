/** The boundary cases of promises 1 to 8, and of BLOCKS FROM A ROW in 'Terms'. */
final class BlocksEdges {
    private BlocksEdges() { }

    static void all() {
        newObject();
        block();
        blocksCome();
        blocksPlaces();
        blocksThatEnd();
        blocksRefused();
        mend();
        mendRefused();
        of();
        feed();
        law();
        goes();
    }

    private static void newObject() {
        Doc.promise(1, "A quarry without blocks.");
        ToadWall x = new ToadWall();
        for (int what = 0; what <= 4; what++) Check.due("of(0, " + what + ")", x.of(0, what), Edge.BAD);
        for (int what = 0; what <= 5; what++) Check.due("count(" + what + ")", x.count(what), 0);
        for (int what = 0; what <= 4; what++) Check.due("led(" + what + ")", x.led(what), 0);
        for (int shelf = 0; shelf <= 5; shelf++) Check.due("shelf " + shelf, x.taken(shelf, 0), -11);
        Edge.still(Edge::fresh, "goes(0)", Edge.BAD, w -> w.goes(0));
        Edge.still(Edge::fresh, "later(0, 0, 0)", Edge.BAD, w -> w.later(0, 0, 0));
        Edge.still(Edge::fresh, "when(0, 0)", Edge.BAD, w -> w.when(0, 0));
        Edge.still(Edge::fresh, "meet(1)", Edge.BAD, w -> w.meet(1));
        Edge.still(Edge::fresh, "judge(0, 0)", Edge.BAD, w -> w.judge(0, 0));
        Edge.still(Edge::fresh, "fits(0, 0, 0)", Edge.BAD, w -> w.fits(0, 0, 0));
        Edge.still(Edge::fresh, "changed(0, 16, 0)", Edge.BAD, w -> w.changed(0, 16, 0));
        Edge.still(Edge::fresh, "drawn(0, 10100, 0)", Edge.BAD, w -> w.drawn(0, 10100, 0));
        Edge.still(Edge::fresh, "drawn(0, 306012, -1)", 0, w -> w.drawn(0, 306012, -1));
        Edge.still(Edge::fresh, "open(0)", Edge.BAD, w -> w.open(0));
        Edge.still(Edge::fresh, "hours(99)", 0, w -> w.hours(99));
        Edge.still(Edge::fresh, "openings(4, -1)", 0, w -> w.openings(4, -1));
        Edge.still(Edge::fresh, "undo()", Edge.STATE, w -> w.undo());
        Edge.still(Edge::fresh, "redo()", Edge.STATE, w -> w.redo());
        Edge.still(Edge::fresh, "back()", Edge.STATE, w -> w.back());
        Edge.still(Edge::fresh, "trace(0)", Edge.BAD, w -> w.trace(0));
        Edge.still(Edge::fresh, "act(0, 0, 5)", 0, w -> w.act(0, 0, 5));
        Edge.still(Edge::fresh, "keep(0, 0)", Edge.BAD, w -> w.keep(0, 0));
        Check.due("a century passes all the same", x.century(), 1);
    }

    private static void block() {
        Doc.promise(2, "A BLOCK in a BED: its number. BAD, FULL: 10.");
        ToadWall x = new ToadWall();
        Check.due("BED 0", x.block(0), 0);
        Check.due("BED 9", x.block(9), 1);
        for (int b = 2; b <= 8; b++) Check.due("its number", x.block(5), b);
        Check.due("nine", x.count(0), 9);
        Check.due("the tenth", x.block(9), 9);
        Check.due("ten", x.count(0), 10);
        Check.due("BED of the first", x.of(0, 0), 0);
        Check.due("BED of the last", x.of(9, 0), 9);
        for (Edge.State state : Edge.ALL) Edge.outside(state, "block(v)", 0, 9, Edge.BAD, (w, v) -> w.block(v));
        Edge.still(Edge::tenBlocks, "block(0)", Edge.FULL, w -> w.block(0));
        Edge.still(Edge::tenBlocks, "block(9)", Edge.FULL, w -> w.block(9));
    }

    /** Bytes of which all threes are so, on a shelf. */
    private static ToadWall bytes(ToadWall x, int shelf, int n) {
        x.row(shelf, 0, n);
        for (int i = 0; i < n; i++) x.put(shelf, i, i % 10);
        return x;
    }

    private static void blocksCome() {
        Doc.promise(3, "BLOCKS FROM A ROW on a SHELF, from place i on, n (1 .. 10) of them: how many came.");
        for (int shelf = 0; shelf <= 5; shelf++) {
            Check.due("SHELF " + shelf, bytes(new ToadWall(), shelf, 3).blocks(shelf, 0, 1), 1);
        }
        for (int n = 1; n <= 10; n++) {
            ToadWall x = bytes(new ToadWall(), 0, 60);
            Check.due(n + " of them", x.blocks(0, 0, n), n);
            Check.due("they came", x.count(0), n);
            Check.due("BED of the last", x.of(n - 1, 0), 3 * (n - 1) % 10);
            Check.due("AT of the last", x.of(n - 1, 1), (3 * n - 2) % 10);
            Check.due("LIVES of the last", x.of(n - 1, 2), (3 * n - 1) % 10);
            Check.due("OPEN, DEAD of the last", x.of(n - 1, 3) + x.of(n - 1, 4), 0);
            Check.due("none is a change", x.count(3), 0);
        }
        for (Edge.State state : Edge.ALL) {
            Edge.outside(state, "blocks(v, 0, 1)", 0, 5, Edge.BAD, (w, v) -> w.blocks(v, 0, 1));
            Edge.outside(state, "blocks(2, 0, v)", 1, 10, Edge.BAD, (w, v) -> w.blocks(2, 0, v));
        }
    }

    private static void blocksPlaces() {
        // No range is told for the place, so that none is BAD: where no three is, none comes.
        int[] none = {-1, -2, -3, -4, Edge.LEAST, Edge.LEAST + 1, 2, 3, 4, 5, Edge.MOST, Edge.MOST - 1, Edge.MOST - 2};
        for (int place : none) {
            Edge.still(Edge::rich, "four bytes, from place " + place, 0, w -> w.blocks(2, place, 10));
            Edge.still(Edge::rich, "a SHELF that holds nothing, from place " + place, 0, w -> w.blocks(0, place, 10));
        }
        Check.due("from the first place", Edge.rich().blocks(2, 0, 10), 1);
        Check.due("the last three", Check.row(Edge.rich(), 2, 0, 99, 9, 15, 9).blocks(2, 1, 10), 1);
        ToadWall x = bytes(new ToadWall(), 0, 60);
        Check.due("from place 57, the last three of sixty", x.blocks(0, 57, 10), 1);
        Check.due("BED, AT, LIVES", x.of(0, 0) * 100 + x.of(0, 1) * 10 + x.of(0, 2), 789);
        Check.due("from place 58", x.blocks(0, 58, 10), 0);
        Check.due("from place 33, the last nine", x.blocks(0, 33, 10), 9);
    }

    private static void blocksThatEnd() {
        Doc.terms("BLOCKS FROM A ROW of bytes, from a place on: by threes BED, AT, LIVES: n of them; it ends where the row is missing, "
            + "ends (within a three, too), one is not so, or BLOCKS are FULL: those ahead came.");
        for (int size = 0; size <= 10; size++) {
            Check.due(size + " bytes", bytes(new ToadWall(), 0, size).blocks(0, 0, 10), size / 3);
        }
        long[][] so = {{0, 0, 0}, {9, 15, 9}};
        for (long[] t : so) Check.due("it is so", Check.row(new ToadWall(), 0, 0, t).blocks(0, 0, 1), 1);
        long[][] notSo = {{-1, 0, 0}, {10, 0, 0}, {0, -1, 0}, {0, 16, 0}, {0, 0, -1}, {0, 0, 10}, {127, 0, 0}, {-128, 0, 0}, {0, 0, 127}};
        for (long[] t : notSo) {
            ToadWall x = Check.row(new ToadWall(), 0, 0, 1, 2, 3, t[0], t[1], t[2], 4, 5, 6);
            Check.due("one is not so", x.blocks(0, 0, 10), 1);
            Check.due("the one ahead came", x.of(0, 0) * 100 + x.of(0, 1) * 10 + x.of(0, 2), 123);
            Check.due("none behind it", x.count(0), 1);
            Edge.still(() -> Check.row(Edge.rich(), 2, 0, t), "the first is not so", 0, w -> w.blocks(2, 0, 10));
        }
        Check.due("256 is kept as 0, and that is so", Check.row(new ToadWall(), 0, 0, 256, 256, 256).blocks(0, 0, 1), 1);
        ToadWall eight = bytes(Check.wall(1, 1, 1, 1, 1, 1, 1, 1), 0, 60);
        Check.due("two until they are FULL", eight.blocks(0, 0, 10), 2);
        Check.due("ten", eight.count(0), 10);
        Check.due("the tenth", eight.of(9, 0), 3);
        Check.due("one until they are FULL", bytes(Check.wall(1, 1, 1, 1, 1, 1, 1, 1, 1), 0, 60).blocks(0, 0, 10), 1);
        for (int n = 1; n <= 10; n += 9) {
            int many = n;
            Edge.still(Edge::tenBlocks, "they are FULL", 0, w -> w.blocks(2, 0, many));
        }
    }

    private static void blocksRefused() {
        Doc.promise(3, "BAD, -12 (no ROW of bytes; a SHELF that holds nothing is missing).");
        for (int sort = 1; sort <= 4; sort++) {
            int its = sort;
            Edge.still(() -> {
                ToadWall x = Edge.rich();
                x.row(2, its, 6);
                return x;
            }, "a row of sort " + sort, -12, w -> w.blocks(2, 0, 1));
        }
        Edge.still(Edge::rich, "a TOAD", -12, w -> w.blocks(1, 0, 1));
        Edge.still(Edge::rich, "a TOAD, a place below 0", -12, w -> w.blocks(1, -1, 1));
        Edge.still(Edge::rich, "ints, a place below 0", -12, w -> w.blocks(3, -1, 1));
        Edge.still(Edge::rich, "nothing", 0, w -> w.blocks(0, 0, 1));
        Edge.still(Edge::fresh, "nothing", 0, w -> w.blocks(5, 0, 10));
        Edge.still(() -> {
            ToadWall x = Edge.rich();
            x.keep(2, -1);
            return x;
        }, "nothing, where bytes were", 0, w -> w.blocks(2, 0, 1));
        Edge.still(() -> {
            ToadWall x = Edge.rich();
            x.keep(2, 0);
            return x;
        }, "a TOAD, where bytes were", -12, w -> w.blocks(2, 0, 1));
        Edge.still(() -> {
            ToadWall x = Edge.rich();
            x.row(1, 0, 0);
            return x;
        }, "a row of no bytes", 0, w -> w.blocks(1, 0, 1));
    }

    private static void mend() {
        Doc.promise(4, "BED (what 0), AT (1), LIVES (2), OPEN (3), DEAD (4) of a BLOCK, LEADS (5), WORD (6) of a THOUGHT, CENTURY (7; number 0) "
            + "becomes v: what it was. BAD.");
        int[] last = {9, 9, 9, 9, 9, 15, 15, 0}, most = {9, 15, 9, 1, 1, 15, 9, 99};
        for (int what = 0; what <= 7; what++) {
            for (int number = 0; number <= last[what]; number += Math.max(1, last[what])) {
                ToadWall x = Check.wall(4, 4, 4, 4, 4, 4, 4, 4, 4, 4);
                int was = x.of(number, what), other = number == 0 ? last[what] : 0, otherWas = x.of(other, what);
                String call = "mend(" + number + ", " + what + ", ..)";
                Check.due(call + " to the most", x.mend(number, what, most[what]), was);
                Check.due(call + " to the most again", x.mend(number, what, most[what]), most[what]);
                Check.due(call + " to the least", x.mend(number, what, 0), most[what]);
                Check.due(call + " to the least again", x.mend(number, what, 0), 0);
                Check.due(call + " is that", x.of(number, what), 0);
                if (other != number) Check.due("the other one", x.of(other, what), otherWas);
            }
        }
    }

    private static void mendRefused() {
        for (Edge.State state : Edge.ALL) {
            Edge.outside(state, "mend(0, v, 0)", 0, 7, Edge.BAD, (w, v) -> w.mend(0, v, 0));
            Edge.outside(state, "mend(v, 7, 5)", 0, 0, Edge.BAD, (w, v) -> w.mend(v, 7, 5));
            Edge.outside(state, "mend(v, 5, 5)", 0, 15, Edge.BAD, (w, v) -> w.mend(v, 5, 5));
            Edge.outside(state, "mend(v, 6, 5)", 0, 15, Edge.BAD, (w, v) -> w.mend(v, 6, 5));
        }
        int[] most = {9, 15, 9, 1, 1, 15, 9, 99};
        for (int what = 0; what <= 7; what++) {
            int its = what;
            Edge.outside(Edge::fortyChanges, "mend(0, " + what + ", v)", 0, most[what], Edge.BAD, (w, v) -> w.mend(0, its, v));
            Edge.still(Edge::rich, "no such number, and v is not as said", Edge.BAD, w -> w.mend(-1, its, -1));
            Edge.still(Edge::rich, "the same number is no change", Edge.rich().of(0, what), w -> w.mend(0, its, w.of(0, its)));
        }
        for (int what = 0; what <= 4; what++) {
            int its = what;
            Edge.still(Edge::fresh, "no BLOCK is there", Edge.BAD, w -> w.mend(0, its, 1));
            Edge.still(Edge::rich, "the last BLOCK and one more", Edge.BAD, w -> w.mend(4, its, 1));
        }
    }

    private static void of() {
        Doc.promise(5, "As of mend() (0 to 7). BAD.");
        ToadWall x = Check.wall(3);
        int[] want = {3, 0, 3, 0, 0, 1, 0, 0};
        for (int what = 0; what <= 7; what++) Check.due("of(0, " + what + ")", x.of(0, what), want[what]);
        Check.due("of(15, 5)", x.of(15, 5), 15);
        Check.due("of(15, 6)", x.of(15, 6), 5);
        for (Edge.State state : Edge.ALL) {
            Edge.outside(state, "of(0, v)", 0, 7, Edge.BAD, (w, v) -> w.of(0, v));
            Edge.outside(state, "of(v, 7)", 0, 0, Edge.BAD, (w, v) -> w.of(v, 7));
            Edge.outside(state, "of(v, 5)", 0, 15, Edge.BAD, (w, v) -> w.of(v, 5));
            Edge.outside(state, "of(v, 6)", 0, 15, Edge.BAD, (w, v) -> w.of(v, 6));
            Edge.outside(state, "of(v, 0)", 0, 9, Edge.BAD, (w, v) -> w.of(v, 0));
        }
        for (int what = 0; what <= 4; what++) {
            int its = what;
            Edge.still(Edge::fresh, "no BLOCK is there", Edge.BAD, w -> w.of(0, its));
            Edge.still(Edge::rich, "of the last", new int[] {0, 2, 8, 1, 0}[what], w -> w.of(3, its));
            Edge.still(Edge::rich, "one more than the last", Edge.BAD, w -> w.of(4, its));
        }
    }

    private static void feed() {
        Doc.promise(6, "A byte (0 .. 255) comes to THE TAPE: how many it has. BAD, FULL (120).");
        ToadWall x = new ToadWall();
        Check.due("the least byte", x.feed(0), 1);
        Check.due("the greatest byte", x.feed(255), 2);
        for (int i = 3; i <= 119; i++) x.feed('1');
        Check.due("119", x.count(2), 119);
        Check.due("the 120th", x.feed(255), 120);
        Check.due("the 121st", x.feed(255), Edge.FULL);
        Check.due("120 as before", x.count(2), 120);
        for (Edge.State state : Edge.ALL) Edge.outside(state, "feed(v)", 0, 255, Edge.BAD, (w, v) -> w.feed(v));
        Edge.still(Edge::fullTape, "feed(0)", Edge.FULL, w -> w.feed(0));
        Edge.still(Edge::fullTape, "feed(255)", Edge.FULL, w -> w.feed(255));
        Edge.still(Edge::fullTape, "feed(49)", Edge.FULL, w -> w.feed(49));
        ToadWall y = new ToadWall();
        for (int i = 0; i < 120; i++) y.feed(i == 0 ? '(' : i == 119 ? ')' : i % 2 == 1 ? '1' : '+');
        Check.due("ahead of FULL ones", y.feed('$'), Edge.FULL);
        Check.due("which byte of the 120 is last", y.law(), -100 - 119);
        Check.due("FULL no more", y.feed('1'), 1);
    }

    private static void law() {
        Doc.promise(7, "THE TAPE becomes THE LAW: 1; -100 less its FAULT; THE TAPE is empty then.");
        ToadWall x = Check.wall(9);
        Check.due("an empty tape", x.law(), -100);
        Check.due("is no law", x.goes(0), 3);
        Check.due("a text", Check.law(x, "7"), 1);
        Check.due("empty then", x.count(2), 0);
        Check.due("the law", x.goes(0), 7);
        Check.due("an empty tape again", x.law(), -100);
        Check.due("the law stays", x.goes(0), 7);
        Check.due("a fault at the first byte", Check.law(x, ")"), -100);
        Check.due("empty then", x.count(2), 0);
        Check.due("a fault at the second", Check.law(x, "5)"), -101);
        Check.due("the law stays", x.goes(0), 7);
        Check.due("a fault in a line behind one that is fine", Check.law(x, "5;)"), -102);
        Check.due("the law stays", x.goes(0), 7);
        Check.due("it ends too early, 120 bytes", Check.law(x, "1+".repeat(60)), -220);
        Check.due("empty then", x.count(2), 0);
        Check.due("the law stays", x.goes(0), 7);
        Check.due("nothing of the one ahead is on the tape", Check.law(x, "2"), 1);
        Check.due("another law", x.goes(0), 2);
        Check.due("no law is a change", x.count(3), 0);
        Edge.still(() -> {
            ToadWall w = Edge.rich();
            w.law();
            return w;
        }, "an empty tape", -100, w -> w.law());
        ToadWall rich = Edge.rich();
        Check.due("the tape of 7+", rich.law(), -102);
        Check.due("the law stays: BED 2 by 3, two are OPEN, CENTURY 41", rich.goes(0), 3);
    }

    private static void goes() {
        Doc.promise(8, "How many THOUGHTS one would go on this century (OPEN or not). BAD.");
        ToadWall x = Check.wall(0, 9);
        Check.due("the first", x.goes(0), 1);
        Check.due("the last", x.goes(1), 3);
        x.open(1);
        Check.due("OPEN", x.goes(1), 3);
        x.hours(99);
        Check.due("DEAD", x.goes(1), 3);
        Check.law(x, "o+y*2");
        Check.due("OPEN, by o", x.goes(1), 1);
        x.century();
        Check.due("by this century", x.goes(0), 3);
        for (Edge.State state : Edge.ALL) Edge.outside(state, "goes(v)", 0, 9, Edge.BAD, (w, v) -> w.goes(v));
        Edge.outside(Edge::rich, "goes(v)", 0, 3, Edge.BAD, (w, v) -> w.goes(v));
        Edge.still(Edge::fresh, "goes(0)", Edge.BAD, w -> w.goes(0));
        Edge.still(Edge::tenBlocks, "goes(9)", 6, w -> w.goes(9));
    }
}
