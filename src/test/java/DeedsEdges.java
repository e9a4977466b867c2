/** The boundary cases of promises 23 to 30, and of IN DEED, LED, CHANGES and AN IMAGE in 'Terms'. */
final class DeedsEdges {
    private DeedsEdges() { }

    static void all() {
        inDeed();
        led();
        changes();
        sameNumberIsNone();
        fortyAtMost();
        doneAgain();
        deedsAreNone();
        whatAnImageKeeps();
        century();
        open();
        hours();
        ledRefused();
        image();
        back();
        undo();
        redo();
    }

    /** One block with so many hours, OPEN. */
    private static ToadWall living(int lives) {
        ToadWall x = Check.wall(0);
        x.mend(0, 2, lives);
        x.open(0);
        return x;
    }

    private static void inDeed() {
        Doc.terms("IN DEED: a CENTURY passes; one is opened; hours pass (of each who is OPEN, and not DEAD, LIVES less by so many; who has none then is DEAD).");
        for (int lives = 0; lives <= 9; lives++) {
            for (int n : new int[] {1, 2, 8, 9, 10, 99}) {
                ToadWall x = living(lives);
                Check.due(lives + " hours, behind " + n + ": DEAD by them", x.hours(n), lives <= n ? 1 : 0);
                Check.due(lives + " hours, behind " + n + ": DEAD", x.of(0, 4), lives <= n ? 1 : 0);
                Check.due(lives + " hours, behind " + n + ": LIVES", x.of(0, 2), Math.max(0, lives - n));
            }
        }
        ToadWall x = Check.wall(0, 0, 0, 0);
        x.mend(0, 3, 1);
        x.mend(0, 4, 1);
        x.mend(1, 4, 1);
        x.mend(3, 3, 1);
        Check.due("one is OPEN and not DEAD", x.hours(3), 1);
        Check.due("OPEN and DEAD: LIVES stay", x.of(0, 2), 3);
        Check.due("DEAD and not OPEN: LIVES stay", x.of(1, 2), 3);
        Check.due("neither: LIVES stay", x.of(2, 2) * 10 + x.of(2, 4), 30);
        Check.due("he who is OPEN", x.of(3, 2) * 10 + x.of(3, 4), 1);
        Check.due("who is DEAD is not DEAD again", x.hours(99), 0);
        Check.due("DEAD by hours", x.led(4), 1);
        x.mend(3, 4, 0);
        Check.due("DEAD no more, without hours: at once again", x.hours(1), 1);
        Check.due("DEAD by hours", x.led(4), 2);
    }

    private static void led() {
        Doc.terms("LED: centuries, opened, WORDS said together, unlike WORDS said (bits), dead by hours.");
        ToadWall x = Check.at(Check.wall(0, 0, 0, 0), 0, 9, 9, 10);
        int[][] want = {{0, 0, 0, 0, 0}, {0, 1, 0, 1, 0}, {0, 2, 9, 513, 0}, {0, 3, 18, 513, 0}, {0, 4, 18, 513, 0}};
        for (int b = 0; b <= 4; b++) {
            for (int what = 0; what <= 4; what++) Check.due(b + " opened, led(" + what + ")", x.led(what), want[b][what]);
            if (b < 4) x.open(b);
        }
        x.hours(2);
        Check.due("none is DEAD yet", x.led(4), 0);
        x.hours(1);
        Check.due("all are", x.led(4), 4);
        x.mend(0, 7, 98);
        for (int c = 1; c <= 3; c++) {
            x.century();
            Check.due("centuries, where 99 stays, too", x.led(0), c);
        }
        // What is told by mend() is no deed, and what is refused is none.
        x.mend(0, 3, 0);
        x.mend(0, 4, 0);
        x.open(1);
        x.open(4);
        x.hours(0);
        Check.due("as before", x.led(0) * 1000 + x.led(1) * 100 + x.led(2) * 10 + x.led(4), 3000 + 400 + 180 + 4);
        Check.due("opened a second time", x.open(0), 0);
        Check.due("opened", x.led(1), 5);
    }

    private static void changes() {
        Doc.terms("CHANGES (all numbers of mend(); telling the same number is none) can be UNDONE, the latest first, and DONE AGAIN "
            + "(as long as no other came behind); 40 at most are kept;");
        int[] v = {9, 15, 9, 1, 1, 15, 9, 99}, was = {4, 0, 3, 0, 0, 1, 0, 0};
        ToadWall x = Check.wall(4);
        for (int what = 0; what <= 7; what++) {
            Check.due("mend(0, " + what + ", " + v[what] + ")", x.mend(0, what, v[what]), was[what]);
            Check.due("changes", x.count(3), what + 1);
        }
        for (int what = 7; what >= 0; what--) {
            Check.due("undo()", x.undo(), what);
            for (int w = 0; w <= 7; w++) Check.due("of(0, " + w + ")", x.of(0, w), w < what ? v[w] : was[w]);
        }
        for (int what = 0; what <= 7; what++) {
            Check.due("redo()", x.redo(), 7 - what);
            for (int w = 0; w <= 7; w++) Check.due("of(0, " + w + ")", x.of(0, w), w <= what ? v[w] : was[w]);
        }
    }

    private static void sameNumberIsNone() {
        ToadWall x = Check.wall(4);
        for (int what = 0; what <= 7; what++) {
            x.mend(0, what, x.of(0, what));
            Check.due("the same number, what " + what, x.count(3), 0);
        }
        x.mend(0, 0, 5);
        x.undo();
        for (int what = 0; what <= 7; what++) x.mend(0, what, x.of(0, what));
        Check.due("none came behind", x.redo(), 0);
        Check.due("BED", x.of(0, 0), 5);
        x.mend(0, 0, 6);
        x.mend(0, 0, 5);
        Check.due("there and back are two", x.count(3), 3);
    }

    private static void fortyAtMost() {
        for (int many : new int[] {39, 40, 41, 80, 99}) {
            ToadWall x = new ToadWall();
            for (int i = 1; i <= many; i++) Check.due("what it was", x.mend(0, 7, i), i - 1);
            int kept = Math.min(40, many);
            Check.due(many + " changes: kept", x.count(3), kept);
            for (int i = kept - 1; i >= 0; i--) Check.due(many + " changes: undo()", x.undo(), i);
            Check.due(many + " changes: one more undo()", x.undo(), Edge.STATE);
            Check.due(many + " changes: CENTURY", x.of(0, 7), many - kept);
            for (int i = kept - 1; i >= 0; i--) Check.due(many + " changes: redo()", x.redo(), i);
            Check.due(many + " changes: one more redo()", x.redo(), Edge.STATE);
            Check.due(many + " changes: CENTURY", x.of(0, 7), many);
        }
        keptOfUnlikeOnes();
        ToadWall x = new ToadWall();
        for (int i = 1; i <= 40; i++) x.mend(0, 7, i);
        x.undo();
        x.mend(0, 7, 90);
        Check.due("39 and one more", x.count(3), 40);
        for (int i = 0; i < 40; i++) x.undo();
        Check.due("none was lost", x.of(0, 7), 0);
    }

    /** Of 43 changes of all numbers the latest forty are kept, each with its own number. */
    private static void keptOfUnlikeOnes() {
        ToadWall x = Check.wall(1, 1, 1);
        int[][] told = new int[43][];
        for (int i = 0; i < 43; i++) {
            int what = i % 8, number = what == 7 ? 0 : i % 3, most = what == 3 || what == 4 ? 2 : 10;
            int was = x.of(number, what), v = (was + 1) % most;
            told[i] = new int[] {number, what, was, v};
            Check.due("what it was", x.mend(number, what, v), was);
        }
        for (int i = 42; i >= 3; i--) {
            Check.due("behind the change " + i, x.of(told[i][0], told[i][1]), told[i][3]);
            Check.due("undo()", x.undo(), i - 3);
            Check.due("ahead of the change " + i, x.of(told[i][0], told[i][1]), told[i][2]);
        }
        Check.due("the first three are not kept", x.undo(), Edge.STATE);
        for (int i = 0; i < 3; i++) Check.due("the change " + i + " stands", x.of(told[i][0], told[i][1]), told[i][3]);
        for (int i = 3; i < 43; i++) {
            Check.due("redo()", x.redo(), 42 - i);
            Check.due("behind the change " + i + " again", x.of(told[i][0], told[i][1]), told[i][3]);
        }
    }

    private static void doneAgain() {
        ToadWall x = Check.wall(1);
        x.mend(0, 0, 2);
        x.mend(0, 0, 3);
        x.undo();
        x.undo();
        x.redo();
        Check.due("another one comes behind", x.mend(0, 6, 5), 0);
        Check.due("none can be DONE AGAIN", x.redo(), Edge.STATE);
        Check.due("BED", x.of(0, 0), 2);
        Check.due("the other one is UNDONE", x.undo(), 1);
        Check.due("WORD", x.of(0, 6), 0);
        Check.due("and DONE AGAIN", x.redo(), 0);
        Check.due("WORD", x.of(0, 6), 5);
        // A change that tells what would come again is another one.
        ToadWall y = Check.wall(1);
        y.mend(0, 0, 2);
        y.undo();
        y.mend(0, 0, 2);
        Check.due("none can be DONE AGAIN", y.redo(), Edge.STATE);
        Check.due("it can be UNDONE", y.undo(), 0);
        Check.due("BED", y.of(0, 0), 1);
    }

    private static void deedsAreNone() {
        Doc.terms("deeds are none (AT, LIVES, OPEN, DEAD, CENTURY by them, too).");
        ToadWall x = Check.wall(0, 0);
        x.century();
        x.open(0);
        x.hours(3);
        x.image();
        x.century();
        x.back();
        x.block(0);
        Check.due("no deed can be UNDONE", x.undo(), Edge.STATE);
        Check.due("count(3)", x.count(3), 0);
        // A change, deeds, and the change is UNDONE: its number is what it was ahead of it; what deeds did to others stays.
        x.mend(1, 1, 9);
        x.century();
        Check.due("AT by a century", x.of(1, 1), 10);
        Check.due("UNDONE", x.undo(), 0);
        Check.due("AT as it was ahead of the change", x.of(1, 1), 1);
        Check.due("CENTURY stays", x.of(0, 7), 2);
        Check.due("who came since has gone on", x.of(2, 1), 1);
        x.century();
        x.open(1);
        x.hours(1);
        x.image();
        x.back();
        Check.due("deeds came behind, and no change: DONE AGAIN", x.redo(), 0);
        Check.due("AT as it was told", x.of(1, 1), 9);
        Check.due("OPEN stays", x.of(1, 3), 1);
        Check.due("LIVES stay", x.of(1, 2), 2);
        x.image();
        x.back();
        Check.due("DONE AGAIN it can be UNDONE, behind an image laid back, too", x.count(3), 1);
        Check.due("UNDONE", x.undo(), 0);
        Check.due("AT ahead of it", x.of(1, 1), 1);
        // Nothing that is no change of mend() keeps it from being DONE AGAIN.
        x.block(3);
        Check.row(x, 0, 0, 1, 2, 3);
        x.blocks(0, 0, 1);
        Check.law(x, "1");
        x.body(0);
        x.act(0, 0, 0);
        x.keep(1, 0);
        Check.due("DONE AGAIN", x.redo(), 0);
        Check.due("AT as it was told", x.of(1, 1), 9);
        int[] whats = {2, 3, 4};
        int[] told = {7, 0, 1}, before = {2, 1, 0};
        for (int i = 0; i < 3; i++) {
            x.mend(1, whats[i], told[i]);
            x.undo();
            Check.due("UNDONE, what " + whats[i], x.of(1, whats[i]), before[i]);
        }
    }

    private static void whatAnImageKeeps() {
        Doc.terms("AN IMAGE keeps AT, LIVES, OPEN, DEAD of BLOCKS, CENTURY, what LED tells.");
        ToadWall x = Check.at(Check.wall(4, 4), 3, 3);
        x.open(0);
        x.hours(1);
        x.century();
        x.image();
        for (int what = 0; what <= 6; what++) x.mend(1, what, what == 0 || what > 4 ? 7 : 1);
        x.mend(0, 7, 55);
        x.open(0);
        x.hours(9);
        x.century();
        x.back();
        int[] kept = {7, 5, 3, 0, 0, 7, 7};
        for (int what = 0; what <= 6; what++) Check.due("of(1, " + what + ")", x.of(1, what), kept[what]);
        Check.due("of(0, 1)", x.of(0, 1), 3);
        Check.due("of(0, 2)", x.of(0, 2), 2);
        Check.due("of(0, 3)", x.of(0, 3), 1);
        Check.due("of(0, 4)", x.of(0, 4), 0);
        Check.due("CENTURY", x.of(0, 7), 1);
        int[] led = {1, 1, 3, 8, 0};
        for (int what = 0; what <= 4; what++) Check.due("led(" + what + ")", x.led(what), led[what]);
        // And the other way round: each number at its most in the image, at its least behind it.
        ToadWall y = Check.wall(9);
        int[] most = {9, 15, 9, 1, 1};
        for (int what = 0; what <= 4; what++) y.mend(0, what, most[what]);
        y.mend(0, 7, 99);
        y.image();
        for (int what = 0; what <= 4; what++) y.mend(0, what, 0);
        y.mend(0, 7, 0);
        y.back();
        for (int what = 1; what <= 4; what++) Check.due("the most, what " + what, y.of(0, what), most[what]);
        Check.due("BED is none of it", y.of(0, 0), 0);
        Check.due("CENTURY 99", y.of(0, 7), 99);
    }

    private static void century() {
        Doc.promise(23, "A CENTURY passes: CENTURY then.");
        ToadWall x = new ToadWall();
        for (int c = 1; c <= 99; c++) Check.due("century()", x.century(), c);
        Check.due("99 stays", x.century(), 99);
        Check.due("99 stays", x.century(), 99);
        Check.due("of(0, 7)", x.of(0, 7), 99);
        Check.due("led(0)", x.led(0), 101);
        ToadWall last = new ToadWall();
        for (int c = 1; c <= 511; c++) last.century();
        Check.due("the 512th call of an object", last.led(0), 511);
        ToadWall ten = Check.wall(0, 1, 2, 3, 4, 5, 6, 7, 8, 9);
        ten.open(8);
        ten.century();
        int[] at = {1, 1, 1, 1, 2, 2, 2, 2, 0, 3};
        for (int b = 0; b <= 9; b++) Check.due("AT of " + b, ten.of(b, 1), at[b]);
        for (int b = 0; b <= 9; b++) ten.open(b);
        ten.century();
        for (int b = 0; b <= 9; b++) Check.due("all are OPEN, AT of " + b, ten.of(b, 1), at[b]);
    }

    private static void open() {
        Doc.promise(24, "One is opened: his WORD. BAD; STATE: he is OPEN.");
        ToadWall x = Check.at(Check.wall(0, 0, 0, 0, 0, 0, 0, 0, 0, 0), 0, 1, 2, 3, 4, 5, 6, 7, 8, 9);
        Check.due("the first", x.open(0), 0);
        Check.due("the last", x.open(9), 9);
        Check.due("the first again", x.open(0), Edge.STATE);
        Check.due("the last again", x.open(9), Edge.STATE);
        Check.due("two", x.count(1), 2);
        for (int b = 1; b <= 8; b++) x.open(b);
        Check.due("all", x.count(1), 10);
        for (Edge.State state : Edge.ALL) Edge.outside(state, "open(v)", 0, 9, Edge.BAD, (w, v) -> w.open(v));
        Edge.outside(Edge::rich, "open(v)", 0, 3, Edge.BAD, (w, v) -> w.open(v));
        Edge.still(Edge::rich, "OPEN, and DEAD", Edge.STATE, w -> w.open(1));
        Edge.still(Edge::rich, "OPEN", Edge.STATE, w -> w.open(3));
        ToadWall y = Check.at(Check.wall(0, 0), 14, 15);
        y.mend(0, 3, 1);
        Check.due("OPEN by mend()", y.open(0), Edge.STATE);
        y.mend(0, 3, 0);
        Check.due("not OPEN any more", y.open(0), 4);
        y.mend(1, 4, 1);
        Check.due("DEAD, and not OPEN", y.open(1), 5);
    }

    private static void hours() {
        Doc.promise(25, "Hours (1 .. 99) pass: how many are DEAD by them. BAD.");
        for (Edge.State state : Edge.ALL) Edge.outside(state, "hours(v)", 1, 99, Edge.BAD, (w, v) -> w.hours(v));
        for (int n = 1; n <= 99; n += 98) {
            int hours = n;
            Edge.still(Edge::fresh, "none is there", 0, w -> w.hours(hours));
            Edge.still(() -> Check.wall(0, 0), "none is OPEN", 0, w -> w.hours(hours));
        }
        ToadWall x = Check.wall(0, 0, 0, 0, 0, 0, 0, 0, 0, 0);
        for (int b = 0; b <= 9; b++) {
            x.mend(b, 2, b);
            x.open(b);
        }
        Check.due("0 and 1 hours", x.hours(1), 2);
        Check.due("8 more than that", x.hours(99), 8);
        Check.due("none is left", x.hours(99), 0);
        Check.due("all by hours", x.led(4), 10);
    }

    private static void ledRefused() {
        Doc.promise(26, "LED: centuries (what 0), opened (1), WORDS together (2), unlike ones (3: bits), dead (4). BAD.");
        for (Edge.State state : Edge.ALL) Edge.outside(state, "led(v)", 0, 4, Edge.BAD, (w, v) -> w.led(v));
        int[] want = {2, 2, 4, 1 << 4 | 1 << 0, 1};
        ToadWall x = Check.at(Check.wall(0, 0), 4, 0);
        x.open(0);
        x.open(1);
        x.century();
        x.century();
        x.mend(1, 2, 9);
        x.hours(8);
        for (int what = 0; what <= 4; what++) Check.due("led(" + what + ")", x.led(what), want[what]);
        for (int what = 0; what <= 4; what++) {
            int its = what;
            Edge.still(Edge::fresh, "led(" + what + ") at first", 0, w -> w.led(its));
        }
    }

    private static void image() {
        Doc.promise(27, "AN IMAGE is kept: opened.");
        ToadWall x = Check.wall(0, 0);
        Check.due("none is opened", x.image(), 0);
        x.open(0);
        Check.due("one", x.image(), 1);
        Check.due("one, kept again", x.image(), 1);
        x.open(1);
        Check.due("two", x.image(), 2);
        Check.due("the latest is laid back", x.back(), 2);
        ToadWall told = Check.wall(0);
        told.mend(0, 3, 1);
        Check.due("LED's opened: OPEN by mend() is none", told.image(), 0);
        Check.due("of no blocks", new ToadWall().image(), 0);
        // A second image takes the first one's place.
        ToadWall y = Check.wall(0);
        y.image();
        y.century();
        y.image();
        y.century();
        y.back();
        Check.due("the second one", y.of(0, 7) * 10 + y.of(0, 1), 11);
        Edge.still(() -> {
            ToadWall w = Edge.rich();
            w.image();
            return w;
        }, "the same image again", 2, w -> w.image());
    }

    private static void back() {
        Doc.promise(28, "It is laid back (BLOCKS that came since as they are): opened. STATE: there is none.");
        Edge.still(Edge::fresh, "there is none", Edge.STATE, w -> w.back());
        Edge.still(() -> {
            ToadWall w = Check.at(Check.wall(1, 2), 3, 4);
            w.open(0);
            w.century();
            return w;
        }, "there is none", Edge.STATE, w -> w.back());
        ToadWall x = new ToadWall();
        x.image();
        for (int b = 0; b < 10; b++) x.block(b);
        x.mend(9, 1, 12);
        x.open(9);
        x.hours(1);
        x.century();
        Check.due("an image of no blocks", x.back(), 0);
        Check.due("they are as they are: AT, LIVES, OPEN of the last", x.of(9, 1) * 100 + x.of(9, 2) * 10 + x.of(9, 3), 1221);
        Check.due("AT of the first", x.of(0, 1), 1);
        Check.due("CENTURY", x.of(0, 7), 0);
        Check.due("ten", x.count(0), 10);
        x.image();
        x.mend(9, 1, 0);
        x.mend(9, 3, 0);
        x.mend(0, 2, 0);
        x.mend(0, 4, 1);
        Check.due("an image of ten", x.back(), 0);
        Check.due("AT, OPEN of the last", x.of(9, 1) * 10 + x.of(9, 3), 121);
        Check.due("LIVES, DEAD of the first", x.of(0, 2) * 10 + x.of(0, 4), 30);
        Check.due("again", x.back(), 0);
        ToadWall one = Check.wall(0);
        one.image();
        one.block(0);
        one.century();
        one.back();
        Check.due("the one there then, the one that came since", one.of(0, 1) * 10 + one.of(1, 1), 1);
        Edge.still(() -> {
            ToadWall w = Edge.rich();
            w.back();
            return w;
        }, "laid back twice", 1, w -> w.back());
    }

    private static void undo() {
        Doc.promise(29, "UNDONE: how many may still be. STATE: none.");
        Edge.still(Edge::fresh, "none", Edge.STATE, w -> w.undo());
        Edge.still(() -> {
            ToadWall w = Edge.rich();
            for (int i = 0; i < 10; i++) w.undo();
            return w;
        }, "none any more", Edge.STATE, w -> w.undo());
        ToadWall x = Check.wall(0);
        x.mend(0, 0, 5);
        x.mend(0, 0, 6);
        Check.due("one may still be", x.undo(), 1);
        Check.due("none may still be", x.undo(), 0);
        Check.due("none", x.undo(), Edge.STATE);
        Check.due("BED", x.of(0, 0), 0);
        ToadWall forty = Edge.fortyChanges();
        Check.due("of forty", forty.undo(), 39);
        Check.due("39", forty.count(3), 39);
    }

    private static void redo() {
        Doc.promise(30, "DONE AGAIN: how many may still be. STATE: none.");
        Edge.still(Edge::fresh, "none", Edge.STATE, w -> w.redo());
        Edge.still(Edge::fortyChanges, "none was UNDONE", Edge.STATE, w -> w.redo());
        Edge.still(() -> {
            ToadWall w = Edge.rich();
            w.redo();
            w.redo();
            return w;
        }, "none any more", Edge.STATE, w -> w.redo());
        Edge.still(() -> {
            ToadWall w = Edge.rich();
            w.mend(0, 6, 8);
            return w;
        }, "another one came behind", Edge.STATE, w -> w.redo());
        ToadWall x = Check.wall(0);
        x.mend(0, 0, 5);
        x.mend(0, 0, 6);
        x.undo();
        x.undo();
        Check.due("one may still be", x.redo(), 1);
        Check.due("one can be UNDONE", x.count(3), 1);
        Check.due("none may still be", x.redo(), 0);
        Check.due("none", x.redo(), Edge.STATE);
        Check.due("BED", x.of(0, 0), 6);
        ToadWall forty = Edge.fortyChanges();
        for (int i = 0; i < 40; i++) forty.undo();
        Check.due("of forty", forty.redo(), 39);
        Check.due("a wrong mend() is no change", forty.mend(16, 6, 1), Edge.BAD);
        Check.due("38", forty.redo(), 38);
    }
}
