/** The boundary cases of promises 17 to 22, and of DRAWN in 'Terms'. */
final class ChancesEdges {
    private ChancesEdges() { }

    static void all() {
        chance();
        judge();
        fits();
        changed();
        byTurns();
        drawn();
        drawnByLaw();
        drawnOften();
        drawnRefused();
    }

    private static void chance() {
        Doc.promise(17, "CHANCE of a WORD 0 .. 9, TWO (word -1) (part 0 above, 1 below the line). Long.MIN_VALUE: BAD.");
        ToadWall x = Check.at(Check.wall(0, 0, 0), 0, 9, 10);
        Check.due("WORD 0, above", x.chance(0, 0), 2);
        Check.due("WORD 0, below", x.chance(0, 1), 3);
        Check.due("WORD 9, above", x.chance(9, 0), 1);
        Check.due("WORD 9, below", x.chance(9, 1), 3);
        Check.due("TWO, above", x.chance(-1, 0), 1);
        Check.due("TWO, below", x.chance(-1, 1), 3);
        for (Edge.State state : Edge.ALL) {
            Edge.outside(state, "chance(v, 0)", -1, 9, Edge.NONE, (w, v) -> w.chance(v, 0));
            Edge.outside(state, "chance(v, 1)", -1, 9, Edge.NONE, (w, v) -> w.chance(v, 1));
            Edge.outside(state, "chance(0, v)", 0, 1, Edge.NONE, (w, v) -> w.chance(0, v));
            Edge.outside(state, "chance(-1, v)", 0, 1, Edge.NONE, (w, v) -> w.chance(-1, v));
        }
        for (int word = -1; word <= 9; word++) {
            int its = word;
            Edge.still(Edge::fresh, "none is there, above", 0, w -> w.chance(its, 0));
            Edge.still(Edge::fresh, "none is there, below", 1, w -> w.chance(its, 1));
        }
    }

    private static ToadWall richWith(int shelf, int sort, long... values) {
        return Check.row(Edge.rich(), shelf, sort, values);
    }

    private static void judge() {
        Doc.promise(18, "JUDGED. BAD, -11, -12 (no ROW of bytes); NOT.");
        for (Edge.State state : Edge.ALL) Edge.outside(state, "judge(v, 0)", 0, 5, Edge.BAD, (w, v) -> w.judge(v, 0));
        for (int shelf = 0; shelf <= 3; shelf++) {
            int its = shelf;
            Edge.outside(Edge::rich, "judge(" + shelf + ", v)", 0, 3, Edge.BAD, (w, v) -> w.judge(its, v));
            Edge.outside(Edge::tenBlocks, "judge(" + shelf + ", v)", 0, 9, Edge.BAD, (w, v) -> w.judge(its, v));
        }
        Edge.still(Edge::rich, "nothing", -11, w -> w.judge(0, 0));
        Edge.still(Edge::rich, "a TOAD", -12, w -> w.judge(1, 0));
        for (int sort = 1; sort <= 4; sort++) {
            int its = sort;
            Edge.still(() -> richWith(2, its, 0), "a row of sort " + sort, -12, w -> w.judge(2, 0));
            Edge.still(() -> richWith(2, its), "an empty row of sort " + sort, -12, w -> w.judge(2, 3));
        }
        for (int shelf = 0; shelf <= 5; shelf += 5) {
            int its = shelf;
            Edge.still(() -> richWith(its, 0), "an empty book", Edge.NOT, w -> w.judge(its, 0));
            Edge.still(() -> richWith(its, 0, 11), "the first and last is not so", 0, w -> w.judge(its, 3));
        }
        Edge.still(() -> richWith(2, 0, 10, 10, 11), "the last is not so, of the last BLOCK", 2, w -> w.judge(2, 3));
        ToadWall open = Check.row(Check.wall(9), 0, 0, 0, 0, 0, 3);
        open.open(0);
        Check.due("who is OPEN stays, and would say the same", open.judge(0, 0), 3);
    }

    private static void fits() {
        Doc.promise(19, "ATS (what 0: bits), BEDS (1: bits). BAD, -11, -12.");
        for (int what = 0; what <= 1; what++) {
            int its = what;
            for (Edge.State state : Edge.ALL) Edge.outside(state, "fits(v, 0, " + what + ")", 0, 5, Edge.BAD, (w, v) -> w.fits(v, 0, its));
            for (int shelf = 0; shelf <= 3; shelf++) {
                int of = shelf;
                Edge.outside(Edge::rich, "fits(" + shelf + ", v, " + what + ")", 0, 3, Edge.BAD, (w, v) -> w.fits(of, v, its));
                Edge.outside(Edge::rich, "fits(" + shelf + ", 0, v)", 0, 1, Edge.BAD, (w, v) -> w.fits(of, 0, v));
            }
            Edge.outside(Edge::tenBlocks, "fits(2, v, " + what + ")", 0, 9, Edge.BAD, (w, v) -> w.fits(2, v, its));
            Edge.still(Edge::rich, "nothing", -11, w -> w.fits(0, 0, its));
            Edge.still(Edge::rich, "a TOAD", -12, w -> w.fits(1, 0, its));
            for (int sort = 1; sort <= 4; sort++) {
                int sorts = sort;
                Edge.still(() -> richWith(2, sorts, 0), "a row of sort " + sort, -12, w -> w.fits(2, 0, its));
            }
            for (int block = 0; block <= 3; block++) {
                int of = block;
                Edge.still(() -> richWith(5, 0), "an empty book, of " + block, what == 0 ? 65535 : 1023, w -> w.fits(5, of, its));
                Edge.still(() -> richWith(0, 0, 10, 11), "no WORD at all, of " + block, 0, w -> w.fits(0, of, its));
            }
        }
        ToadWall open = Check.row(Check.wall(9), 0, 0, 5, 5);
        Check.due("15 leads to itself", open.fits(0, 0, 0), 1 << 15);
        open.open(0);
        Check.due("who is OPEN stays", open.fits(0, 0, 0), 1 << 5 | 1 << 15);
        Check.due("no BED brings him there", open.fits(0, 0, 1), 0);
        open.mend(0, 1, 5);
        Check.due("in all BEDS he is there", open.fits(0, 0, 1), 1023);
    }

    private static void changed() {
        Doc.promise(20, "CHANGED (nt: 16 n, and the THOUGHT): how many (what 0), which (1). BAD; NOT.");
        ToadWall x = Check.wall(0, 0, 0, 0, 0, 0, 0, 0, 0, 9);
        Check.due("n 1, THOUGHT 0: how many", x.changed(0, 16, 0), 1);
        Check.due("n 1, THOUGHT 0: which", x.changed(0, 16, 1), 0);
        Check.due("n 1, THOUGHT 15: which", x.changed(0, 31, 1), 15);
        Check.due("n 40, THOUGHT 0: which", x.changed(0, 640, 1), 0);
        Check.due("n 40, THOUGHT 15: how many", x.changed(0, 655, 0), 0);
        Check.due("n 40, THOUGHT 15: which", x.changed(0, 655, 1), 256);
        Check.due("of the last, n 1, THOUGHT 3", x.changed(9, 19, 0), 0);
        Check.due("of the last, n 1, THOUGHT 5: 0 to 3, 4, 5", x.changed(9, 21, 1), 3);
        for (int what = 0; what <= 1; what++) {
            int its = what;
            for (Edge.State state : Edge.ALL) {
                Edge.outside(state, "changed(0, v, " + what + ")", 16, 655, Edge.BAD, (w, v) -> w.changed(0, v, its));
                Edge.outside(state, "changed(v, 16, " + what + ")", 0, 9, Edge.BAD, (w, v) -> w.changed(v, 16, its));
                for (int nt : new int[] {0, -1, -16, -17, 656 + 15, 16 * 61}) {
                    Edge.still(state, "changed(0, " + nt + ", " + what + ")", Edge.BAD, w -> w.changed(0, nt, its));
                }
            }
            Edge.outside(Edge::rich, "changed(v, 655, " + what + ")", 0, 3, Edge.BAD, (w, v) -> w.changed(v, 655, its));
            // Block 1 of rich() is OPEN, and stays where he is.
            Edge.still(Edge::rich, "who is OPEN, elsewhere", Edge.NOT, w -> w.changed(1, 16 + (w.of(1, 1) + 1) % 16, its));
            Edge.still(Edge::rich, "who is OPEN, there", what * 256, w -> w.changed(1, 640 + w.of(1, 1), its));
        }
        for (Edge.State state : Edge.ALL) {
            Edge.outside(state, "changed(0, 16, v)", 0, 1, Edge.BAD, (w, v) -> w.changed(0, 16, v));
            Edge.outside(state, "changed(0, 655, v)", 0, 1, Edge.BAD, (w, v) -> w.changed(0, 655, v));
        }
        Edge.still(Edge::rich, "LEADS are as they were", Edge.rich().changed(0, 640, 1), w -> w.changed(0, 640, 1));
    }

    private static void byTurns() {
        Doc.promise(21, "BY TURNS: that (what 0), whom (1). VOID: BAD.");
        for (Edge.State state : Edge.ALL) {
            Edge.outside(state, "byTurns(v, 0)", 1, 4, Edge.VOID, (w, v) -> w.byTurns(v, 0));
            Edge.outside(state, "byTurns(v, 1)", 1, 4, Edge.VOID, (w, v) -> w.byTurns(v, 1));
            Edge.outside(state, "byTurns(1, v)", 0, 1, Edge.VOID, (w, v) -> w.byTurns(1, v));
            Edge.outside(state, "byTurns(4, v)", 0, 1, Edge.VOID, (w, v) -> w.byTurns(4, v));
            Edge.still(state, "both are not as said", Edge.VOID, w -> w.byTurns(0, 2));
        }
        ToadWall x = Check.at(Check.wall(0, 0), 3, 4);
        Check.due("that, once", x.byTurns(1, 0), 4);
        Check.due("whom, once", x.byTurns(1, 1), 1);
        Check.due("that, four times", x.byTurns(4, 0), 1);
        Check.due("whom, four times", x.byTurns(4, 1), 1);
        for (int n = 1; n <= 4; n++) {
            int times = n;
            Edge.still(Edge::fresh, "none is there: that", 0, w -> w.byTurns(times, 0));
            Edge.still(Edge::fresh, "none is there: whom", 10, w -> w.byTurns(times, 1));
        }
        Edge.still(Edge::tenBlocks, "in thought alone", Edge.tenBlocks().byTurns(4, 0), w -> w.byTurns(4, 0));
    }

    private static int next(int z) {
        return z * 1103515245 + 12345;
    }

    /** A wall of blocks who stay where they are, told by their WORDS; which are OPEN from before as bits. */
    private static void drawnDue(int seed, int n, int m, int zeal, int openBits, int... words) {
        ToadWall x = Check.at(Check.wall(new int[words.length]), words);
        Check.law(x, "0");
        for (int b = 0; b < words.length; b++) x.mend(b, 3, openBits >> b & 1);
        int z = seed, said = 0;
        int[] often = new int[words.length];
        for (int age = 0; age < n; age++) {
            int open = openBits;
            for (int c = 0; c < m; c++) {
                z = next(z);
                if (words.length == 0) continue;
                int whom = (z >>> 8) % words.length;
                if ((open >> whom & 1) == 0 && (z >>> 16) % 12 < zeal) {
                    open |= 1 << whom;
                    said += words[whom];
                }
            }
            for (int b = 0; b < words.length; b++) often[b] += open >> b & 1;
        }
        String call = "seed " + seed + ", " + n + " ages of " + m + ", ZEAL " + zeal + ", " + words.length + " blocks";
        int nmz = 10000 * n + 100 * m + zeal;
        Check.due(call, x.drawn(seed, nmz, -1), said);
        for (int b = 0; b < words.length; b++) Check.due(call + ", block " + b, x.drawn(seed, nmz, b), often[b]);
    }

    private static void drawn() {
        Doc.terms("======== 4 DRAWN: n ages (1 .. 30) of m (1 .. 60) centuries from now by a SEED: z = z * 1103515245 + 12345 (an int; SEED at first) "
            + "ahead of each century: the (z >>> 8) % how many-th is opened, if he is not, and (z >>> 16) % 12 is below ZEAL (0 .. 12, told); "
            + "then the century passes: WORDS said, all together; in how many ages a told one is OPEN at the end.");
        int[] seeds = {0, 1, -1, 12345, -12345, Edge.LEAST, Edge.MOST, 1 << 30, 77777};
        int[][] walls = {{}, {9}, {0}, {3, 9}, {1, 2, 3}, {0, 1, 2, 3, 4, 5, 6, 7, 8}, {9, 8, 7, 6, 5, 4, 3, 2, 1, 0}};
        for (int seed : seeds) {
            for (int[] words : walls) {
                for (int n : new int[] {1, 2, 30}) {
                    for (int m : new int[] {1, 2, 60}) {
                        drawnDue(seed, n, m, 12, 0, words);
                        drawnDue(seed, n, m, 0, 0, words);
                        drawnDue(seed, n, m, 1, 0, words);
                        drawnDue(seed, n, m, 11, 5, words);
                    }
                }
                drawnDue(seed, 30, 60, 6, 1023 >> 10 - words.length, words);
            }
        }
    }

    private static void drawnByLaw() {
        // He is opened ahead of the century's passing: the WORD of its beginning is said, and a step in the last century is not heard.
        ToadWall x = Check.wall(0);
        Check.law(x, "1");
        Check.due("ZEAL 12: at once, each age from now", x.drawn(1, 306012, -1), 0);
        x.mend(0, 1, 9);
        Check.due("ZEAL 12: WORD 9 thirty times", x.drawn(1, 306012, -1), 270);
        // Which seed opens a single one first in the last of 60 centuries? There he has gone 59 times.
        x.mend(0, 1, 0);
        Check.law(x, "y=58");
        int found = 0;
        for (int seed = 0; seed < 4000 && found < 3; seed++) {
            int z = seed, first = -1;
            for (int c = 0; c < 60 && first < 0; c++) {
                z = next(z);
                if ((z >>> 16) % 12 < 1) first = c;
            }
            if (first != 59 && first != 58) continue;
            found += first == 59 ? 1 : 0;
            Check.due("first drawn in century " + first, x.drawn(seed, 16001, -1), first == 59 ? 1 : 0);
            Check.due("OPEN at the end", x.drawn(seed, 16001, 0), 1);
            if (first == 59) Check.due("of 59 centuries not OPEN", x.drawn(seed, 15901, 0), 0);
        }
        Check.due("seeds found", found, 3);
        // By o: one is opened and counts in the century that then passes; by y: 99 stays.
        ToadWall y = Check.wall(0, 0);
        Check.law(y, "(o=1)*5+(y=99)");
        y.mend(0, 7, 99);
        for (int seed = 0; seed < 12; seed++) {
            int z = next(seed), one = (z >>> 8) % 2, other = (next(z) >>> 8) % 2;
            Check.due("two centuries by " + seed, y.drawn(seed, 10212, -1), one == other ? 0 : 6);
        }
    }

    private static void drawnOften() {
        Doc.promise(22, "DRAWN (nmz: 10000 n, 100 m, and ZEAL): WORDS (block -1), how often one is OPEN. BAD.");
        ToadWall x = Check.at(Check.wall(0, 0, 0, 0, 0, 0, 0, 0, 0, 0), 1, 1, 1, 1, 1, 1, 1, 1, 1, 1);
        Check.law(x, "0");
        x.open(9);
        Check.due("the last one, OPEN from before, one age", x.drawn(3, 10100, 9), 1);
        Check.due("the last one, OPEN from before, thirty ages", x.drawn(3, 300100, 9), 30);
        Check.due("the first one, ZEAL 0", x.drawn(3, 306000, 0), 0);
        Check.due("WORDS, ZEAL 0", x.drawn(3, 306000, -1), 0);
        Check.due("WORDS of one age of one century, ZEAL 12", x.drawn(3, 10112, -1), (next(3) >>> 8) % 10 == 9 ? 0 : 1);
        for (Edge.State state : Edge.ALL) {
            Edge.still(state, "ZEAL 0: WORDS", 0, w -> w.drawn(9, 306000, -1));
        }
        Edge.still(Edge::tenBlocks, "in thought alone", Edge.tenBlocks().drawn(9, 306012, -1), w -> w.drawn(9, 306012, -1));
    }

    private static void drawnRefused() {
        int[] inside = {10100, 10112, 16000, 16012, 300100, 306000, 306012};
        for (int nmz : inside) Check.holds(nmz + " is as said", Check.wall(0).drawn(0, nmz, -1) >= 0 && Check.wall(0).drawn(0, nmz, 0) >= 0);
        int[] outside = {0, 12, 100, 112, 6012, 9999, 10000, 10012, 10113, 10199, 16013, 16100, 16112, 19900, 300000, 300113, 306013, 306100, 310000, 310100,
            310112, 1000000, -1, -10100, -10112, -306012, Edge.LEAST, Edge.MOST};
        for (int nmz : outside) {
            Edge.still(Edge::fresh, "drawn(0, " + nmz + ", -1)", Edge.BAD, w -> w.drawn(0, nmz, -1));
            Edge.still(Edge::rich, "drawn(0, " + nmz + ", -1)", Edge.BAD, w -> w.drawn(0, nmz, -1));
            Edge.still(Edge::rich, "drawn(0, " + nmz + ", 3)", Edge.BAD, w -> w.drawn(0, nmz, 3));
            Edge.still(Edge::rich, "drawn(0, " + nmz + ", 4)", Edge.BAD, w -> w.drawn(0, nmz, 4));
        }
        Edge.outside(Edge::fresh, "drawn(0, 10112, v)", -1, -1, Edge.BAD, (w, v) -> w.drawn(0, 10112, v));
        Edge.outside(Edge::rich, "drawn(0, 10112, v)", -1, 3, Edge.BAD, (w, v) -> w.drawn(0, 10112, v));
        Edge.outside(Edge::tenBlocks, "drawn(0, 306012, v)", -1, 9, Edge.BAD, (w, v) -> w.drawn(0, 306012, v));
    }
}
