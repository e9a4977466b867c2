/** The boundary cases of promises 9 to 16; what the terms in them mean is in TermsEdges. */
final class CenturiesEdges {
    private CenturiesEdges() { }

    static void all() {
        later();
        wall();
        when();
        meet();
        steps();
        net();
        fewest();
        openings();
        openingsAskedAnew();
        openingsThatAreNot();
    }

    private static void later() {
        Doc.promise(9, "Behind n centuries: AT (what 0), WORD (1) of one. BAD.");
        ToadWall x = Check.wall(0, 0, 0, 0, 0, 0, 0, 0, 0, 9);
        Check.due("AT of the first, behind 0", x.later(0, 0, 0), 0);
        Check.due("WORD of the first, behind 0", x.later(0, 0, 1), 0);
        Check.due("AT of the last, behind 4", x.later(4, 9, 0), 12);
        Check.due("WORD of the last, behind 4", x.later(4, 9, 1), 2);
        Check.due("AT of the last, behind 60", x.later(60, 9, 0), 15);
        Check.due("WORD of the last, behind 60", x.later(60, 9, 1), 5);
        for (Edge.State state : Edge.ALL) {
            Edge.outside(state, "later(v, 0, 0)", 0, 60, Edge.BAD, (w, v) -> w.later(v, 0, 0));
            Edge.outside(state, "later(v, 0, 1)", 0, 60, Edge.BAD, (w, v) -> w.later(v, 0, 1));
            Edge.outside(state, "later(1, v, 0)", 0, 9, Edge.BAD, (w, v) -> w.later(1, v, 0));
            Edge.outside(state, "later(1, 0, v)", 0, 1, Edge.BAD, (w, v) -> w.later(1, 0, v));
        }
        Edge.outside(Edge::rich, "later(1, v, 1)", 0, 3, Edge.BAD, (w, v) -> w.later(1, v, 1));
        Edge.still(Edge::rich, "in thought alone", Edge.rich().later(60, 2, 0), w -> w.later(60, 2, 0));
    }

    private static void wall() {
        Doc.promise(10, "Behind n centuries: WORDS (what 0: bits), how many unlike THOUGHTS (1). BAD.");
        ToadWall x = Check.at(Check.wall(0, 0, 9), 0, 9, 9);
        Check.due("WORDS behind 0", x.wall(0, 0), 1 | 1 << 9);
        Check.due("THOUGHTS behind 0", x.wall(0, 1), 2);
        Check.due("WORDS behind 1", x.wall(1, 0), 1 << 1 | 1 << 0 | 1 << 2);
        Check.due("THOUGHTS behind 1", x.wall(1, 1), 3);
        Check.due("WORDS behind 60", x.wall(60, 0), 1 << 5);
        Check.due("THOUGHTS behind 60", x.wall(60, 1), 1);
        for (Edge.State state : Edge.ALL) {
            Edge.outside(state, "wall(v, 0)", 0, 60, Edge.BAD, (w, v) -> w.wall(v, 0));
            Edge.outside(state, "wall(v, 1)", 0, 60, Edge.BAD, (w, v) -> w.wall(v, 1));
            Edge.outside(state, "wall(0, v)", 0, 1, Edge.BAD, (w, v) -> w.wall(0, v));
            Edge.outside(state, "wall(60, v)", 0, 1, Edge.BAD, (w, v) -> w.wall(60, v));
        }
        Edge.still(Edge::fresh, "nobody is there", 0, w -> w.wall(0, 0));
        Edge.still(Edge::fresh, "nobody is there", 0, w -> w.wall(60, 1));
        Edge.still(Edge::tenBlocks, "in thought alone", Edge.tenBlocks().wall(60, 1), w -> w.wall(60, 1));
    }

    private static void when() {
        Doc.promise(11, "WHEN. BAD; NOT.");
        ToadWall x = Check.wall(0, 0, 0, 0, 0, 0, 0, 0, 0, 9);
        Check.due("the first at 0", x.when(0, 0), 0);
        Check.due("the first at 15", x.when(0, 15), 15);
        Check.due("the last at 15", x.when(9, 15), 5);
        Check.due("the last at 14", x.when(9, 14), Edge.NOT);
        for (Edge.State state : Edge.ALL) {
            Edge.outside(state, "when(v, 0)", 0, 9, Edge.BAD, (w, v) -> w.when(v, 0));
            Edge.outside(state, "when(0, v)", 0, 15, Edge.BAD, (w, v) -> w.when(0, v));
        }
        Edge.outside(Edge::rich, "when(v, 15)", 0, 3, Edge.BAD, (w, v) -> w.when(v, 15));
        Edge.outside(Edge::rich, "of one who is OPEN, when(1, v)", 0, 15, Edge.BAD, (w, v) -> w.when(1, v));
        Edge.still(Edge::rich, "of one who is OPEN, and is elsewhere", Edge.NOT, w -> w.when(1, 15));
        Edge.still(Edge::rich, "of one who is OPEN, and is there", 0, w -> w.when(1, w.of(1, 1)));
        Edge.still(Edge::rich, "both are not as said", Edge.BAD, w -> w.when(4, 16));
    }

    private static void meet() {
        Doc.promise(12, "MEET (ab: 10 times the one, and the other, unlike). BAD; NOT.");
        ToadWall x = Check.at(Check.wall(0, 0, 0, 0, 0, 0, 0, 0, 0, 0), 0, 1, 1, 1, 1, 1, 1, 1, 15, 14);
        Check.due("the first two", x.meet(1), 15);
        Check.due("the first two, the other way", x.meet(10), 15);
        Check.due("the last two", x.meet(89), 1);
        Check.due("the last two, the other way", x.meet(98), 1);
        Check.due("the first and the last", x.meet(9), 15);
        Check.due("the last and the first", x.meet(90), 15);
        for (int b = 0; b <= 9; b++) {
            int like = 11 * b;
            Edge.still(Edge::tenBlocks, "one and the same, meet(" + like + ")", Edge.BAD, w -> w.meet(like));
        }
        for (Edge.State state : Edge.ALL) Edge.outside(state, "meet(v)", 0, 99, Edge.BAD, (w, v) -> w.meet(v));
        int[] noSuch = {4, 40, 14, 41, 43, 34, 9, 90, -1, -10, -11, -12, 100, 101, 110, 120};
        for (int ab : noSuch) Edge.still(Edge::rich, "four are there, meet(" + ab + ")", Edge.BAD, w -> w.meet(ab));
        Check.holds("the last two of four", Edge.rich().meet(23) != Edge.BAD && Edge.rich().meet(32) == Edge.rich().meet(23));
        Edge.still(Edge::fresh, "none is there, meet(1)", Edge.BAD, w -> w.meet(1));
        Edge.still(() -> Check.wall(0), "one is there, meet(1)", Edge.BAD, w -> w.meet(1));
        Edge.still(() -> Check.wall(0), "one is there, meet(0)", Edge.BAD, w -> w.meet(0));
        Edge.still(() -> bothOpen(Check.at(Check.wall(0, 0), 0, 1)), "both are OPEN, and not at one THOUGHT", Edge.NOT, w -> w.meet(1));
        Edge.still(() -> bothOpen(Check.at(Check.wall(0, 0), 7, 7)), "both are OPEN, and at one THOUGHT", 0, w -> w.meet(1));
    }

    private static ToadWall bothOpen(ToadWall x) {
        x.open(0);
        x.open(1);
        return x;
    }

    private static void steps() {
        Doc.promise(13, "STEPS (from: BAD; NOT).");
        ToadWall x = new ToadWall();
        Check.due("steps(0, 0)", x.steps(0, 0), 0);
        Check.due("steps(15, 15)", x.steps(15, 15), 0);
        Check.due("steps(0, 15)", x.steps(0, 15), 15);
        for (Edge.State state : Edge.ALL) {
            Edge.outside(state, "steps(v, 0)", 0, 15, Edge.BAD, (w, v) -> w.steps(v, 0));
            Edge.outside(state, "steps(v, 15)", 0, 15, Edge.BAD, (w, v) -> w.steps(v, 15));
            Edge.outside(state, "steps(0, v)", 0, 15, Edge.BAD, (w, v) -> w.steps(0, v));
            Edge.outside(state, "steps(15, v)", 0, 15, Edge.BAD, (w, v) -> w.steps(15, v));
        }
        Edge.still(Edge::fresh, "both are not as said, and the same", Edge.BAD, w -> w.steps(16, 16));
        Edge.still(Edge::fresh, "both are not as said, and the same", Edge.BAD, w -> w.steps(-1, -1));
        Edge.still(Edge::fresh, "NOT", Edge.NOT, w -> w.steps(15, 14));
    }

    private static void net() {
        Doc.promise(14, "FROM (what 0: bits), RING (1), AHEAD (2) of a THOUGHT. BAD.");
        ToadWall x = new ToadWall();
        int[][] want = {{1, 1, 15}, {65535, 1, 0}};
        for (int what = 0; what <= 2; what++) {
            int its = what;
            Check.due("net(0, " + what + ")", x.net(0, what), want[0][what]);
            Check.due("net(15, " + what + ")", x.net(15, what), want[1][what]);
            for (Edge.State state : Edge.ALL) Edge.outside(state, "net(v, " + what + ")", 0, 15, Edge.BAD, (w, v) -> w.net(v, its));
        }
        for (Edge.State state : Edge.ALL) {
            Edge.outside(state, "net(0, v)", 0, 2, Edge.BAD, (w, v) -> w.net(0, v));
            Edge.outside(state, "net(15, v)", 0, 2, Edge.BAD, (w, v) -> w.net(15, v));
        }
    }

    private static void fewest() {
        Doc.promise(15, "FEWEST: how many (what 0), which (1). BAD; NOT.");
        ToadWall x = Check.at(Check.wall(0, 0), 9, 0);
        Check.due("how many", x.fewest(1 | 1 << 9, 0), 2);
        Check.due("which", x.fewest(1 | 1 << 9, 1), 3);
        Check.due("which, of one", x.fewest(1, 1), 2);
        Check.due("all WORDS, how many", x.fewest(1023, 0), Edge.NOT);
        Check.due("all WORDS, which", x.fewest(1023, 1), Edge.NOT);
        for (Edge.State state : Edge.ALL) {
            Edge.outside(state, "fewest(v, 0)", 0, 1023, Edge.BAD, (w, v) -> w.fewest(v, 0));
            Edge.outside(state, "fewest(v, 1)", 0, 1023, Edge.BAD, (w, v) -> w.fewest(v, 1));
            Edge.outside(state, "fewest(0, v)", 0, 1, Edge.BAD, (w, v) -> w.fewest(0, v));
            Edge.outside(state, "fewest(1023, v)", 0, 1, Edge.BAD, (w, v) -> w.fewest(1023, v));
            Edge.still(state, "none is told: how many", 0, w -> w.fewest(0, 0));
            Edge.still(state, "none is told: which", 0, w -> w.fewest(0, 1));
            Edge.still(state, "all are told, and not all are said", Edge.NOT, w -> w.fewest(1023, 0));
        }
    }

    private static void openings() {
        Doc.promise(16, "OPENINGS: how many (i -1), the i-th opened (NOT: there are not as many). BAD.");
        ToadWall x = Check.wall(0, 0, 0, 0, 0, 0, 0, 0, 0, 0);
        Check.due("none: how many", x.openings(0, -1), 0);
        Check.due("four: how many", x.openings(4, -1), 4);
        Check.due("four: the first", x.openings(4, 0), 0);
        Check.due("four: the last", x.openings(4, 3), 3);
        for (Edge.State state : Edge.ALL) {
            Edge.outside(state, "openings(v, -1)", 0, 4, Edge.BAD, (w, v) -> w.openings(v, -1));
            Edge.outside(state, "openings(v, 0)", 0, 4, Edge.BAD, (w, v) -> w.openings(v, 0));
            for (int i : new int[] {-2, -3, Edge.LEAST}) {
                for (int k : new int[] {0, 1, 4}) Edge.still(state, "openings(" + k + ", " + i + ")", Edge.BAD, w -> w.openings(k, i));
            }
        }
        // The order of numbers is not the best: by it all four say 5.
        ToadWall down = Check.at(Check.wall(0, 0, 0, 0), 5, 4, 3, 2);
        Check.due("how many", down.openings(4, -1), 4);
        Check.due("the order", down.openings(4, 0) * 1000 + down.openings(4, 1) * 100 + down.openings(4, 2) * 10 + down.openings(4, 3), firstBestOrder());
    }

    /** Of all orders of four at 5, 4, 3, 2 who step one a century the first by numbers that says four unlike WORDS. */
    private static int firstBestOrder() {
        int[] at = {5, 4, 3, 2};
        for (int order = 0; order <= 3333; order++) {
            int[] who = {order / 1000, order / 100 % 10, order / 10 % 10, order % 10};
            int seen = 0, said = 0;
            for (int c = 0; c < 4; c++) {
                if (who[c] > 3) break;
                seen |= 1 << who[c];
                said |= 1 << at[who[c]] + c;
            }
            if (seen == 15 && Integer.bitCount(said) == 4) return order;
        }
        return -1;
    }

    /** Each answer is of the wall as it is now, whatever was asked ahead of it. */
    private static void openingsAskedAnew() {
        ToadWall x = Check.wall(0, 0, 0);
        Check.due("the first call of all", x.openings(3, 2), 2);
        Check.due("fewer", x.openings(1, 1), Edge.NOT);
        Check.due("more again", x.openings(4, 2), 2);
        x.mend(1, 1, 9);
        x.mend(2, 1, 9);
        x.open(0);
        Check.due("behind an opening, the first", x.openings(4, 0), 1);
        Check.due("behind an opening, the last", x.openings(4, 1), 2);
        Check.due("behind an opening, no third", x.openings(4, 2), Edge.NOT);
        Check.due("how many", x.openings(4, -1), 2);
        x.block(0);
        Check.due("behind another block", x.openings(4, 2), 3);
    }

    private static void openingsThatAreNot() {
        int[] places = {4, 5, 10, 99, Edge.MOST};
        for (int i : places) Edge.still(Edge::tenBlocks, "of four, openings(4, " + i + ")", Edge.NOT, w -> w.openings(4, i));
        for (int k = 0; k <= 4; k++) {
            int its = k;
            Edge.still(Edge::tenBlocks, "of " + k + " there is no " + k + "-th", Edge.NOT, w -> w.openings(its, its));
            Edge.still(Edge::fresh, "none is there", Edge.NOT, w -> w.openings(its, 0));
            Edge.still(Edge::fresh, "none is there: how many", 0, w -> w.openings(its, -1));
        }
        // Two of rich() are not OPEN: 0 and 2.
        Edge.still(Edge::rich, "of two the second", Edge.rich().openings(2, 1), w -> w.openings(4, 1));
        Edge.still(Edge::rich, "of two there is no third", Edge.NOT, w -> w.openings(4, 2));
        Edge.still(Edge::rich, "of two there is no third", Edge.NOT, w -> w.openings(2, 2));
        Edge.still(Edge::rich, "of one there is no second", Edge.NOT, w -> w.openings(1, 1));
    }
}
