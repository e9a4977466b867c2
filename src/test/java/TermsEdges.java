import java.io.IOException;
import java.io.UncheckedIOException;
import java.nio.file.Files;
import java.nio.file.Path;
import java.util.ArrayList;
import java.util.Arrays;
import java.util.List;
import java.util.regex.Matcher;
import java.util.regex.Pattern;

/** The boundary cases of 'Terms', but for THE LAW (LawEdges): numbers and their ranges, answers, which comes first. */
final class TermsEdges {
    private TermsEdges() { }

    static void all() {
        thoughts();
        blocks();
        blocksNumbers();
        century();
        inThought();
        deadAndNotOpen();
        when();
        meet();
        steps();
        fromRingAhead();
        fewest();
        openings();
        chance();
        two();
        book();
        atsAndBeds();
        changed();
        byTurns();
        byTurnsWhom();
        constants();
        answersOfSeveral();
        changesNothing();
        headings();
    }

    private static void thoughts() {
        Doc.terms("15: LEADS (0 .. 15: to which; at first to the next one, 15 to itself), WORD (0 .. 9; at first its number's remainder by 10).");
        ToadWall x = new ToadWall();
        for (int t = 0; t <= 15; t++) {
            Check.due("of(" + t + ", 5)", x.of(t, 5), t == 15 ? 15 : t + 1);
            Check.due("of(" + t + ", 6)", x.of(t, 6), t < 10 ? t : t - 10);
        }
        for (int t = 0; t <= 15; t += 15) {
            int number = t;
            x.mend(t, 5, 15);
            Check.due("LEADS 15 of " + t, x.of(t, 5), 15);
            Check.due("LEADS 0 of " + t, x.mend(t, 5, 0), 15);
            Check.due("LEADS 0 of " + t, x.of(t, 5), 0);
            x.mend(t, 6, 9);
            Check.due("WORD 9 of " + t, x.of(t, 6), 9);
            Check.due("WORD 0 of " + t, x.mend(t, 6, 0), 9);
            Check.due("WORD 0 of " + t, x.of(t, 6), 0);
            Edge.outside(Edge::rich, "mend(" + t + ", 5, v)", 0, 15, Edge.BAD, (w, v) -> w.mend(number, 5, v));
            Edge.outside(Edge::rich, "mend(" + t + ", 6, v)", 0, 9, Edge.BAD, (w, v) -> w.mend(number, 6, v));
        }
        for (int what = 5; what <= 6; what++) {
            int its = what;
            Edge.outside(Edge::fresh, "of(thought, " + what + ")", 0, 15, Edge.BAD, (w, v) -> w.of(v, its));
            Edge.outside(Edge::rich, "mend(thought, " + what + ", 3)", 0, 15, Edge.BAD, (w, v) -> w.mend(v, its, 3));
        }
    }

    private static void blocks() {
        Doc.terms("BLOCKS 0 .. 9, as they come:");
        ToadWall x = new ToadWall();
        for (int b = 0; b <= 9; b++) {
            Check.due("ahead of it, of(" + b + ", 0)", x.of(b, 0), Edge.BAD);
            Check.due("it comes", x.block(9 - b), b);
            Check.due("of(" + b + ", 0)", x.of(b, 0), 9 - b);
        }
        Check.due("the eleventh", x.block(0), Edge.FULL);
        for (int what = 0; what <= 4; what++) {
            int its = what;
            Edge.outside(Edge::tenBlocks, "of(block, " + what + ")", 0, 9, Edge.BAD, (w, v) -> w.of(v, its));
            Edge.outside(Edge::rich, "of(block, " + what + ")", 0, 3, Edge.BAD, (w, v) -> w.of(v, its));
            Edge.outside(Edge::rich, "mend(block, " + what + ", 1)", 0, 3, Edge.BAD, (w, v) -> w.mend(v, its, 1));
            Edge.outside(Edge::tenBlocks, "mend(block, " + what + ", 1)", 0, 9, Edge.BAD, (w, v) -> w.mend(v, its, 1));
        }
    }

    private static void blocksNumbers() {
        Doc.terms("BED (0 .. 9), AT (a THOUGHT; 0 at first), LIVES (0 .. 9 hours; 3 at first), OPEN (0, 1; 0 at first), DEAD (0, 1; 0 at first).");
        int[] atFirst = {4, 0, 3, 0, 0}, most = {9, 15, 9, 1, 1};
        ToadWall x = Check.wall(4, 4, 4, 4, 4, 4, 4, 4, 4, 4);
        for (int b = 0; b <= 9; b += 9) {
            for (int what = 0; what <= 4; what++) {
                Check.due("of(" + b + ", " + what + ") at first", x.of(b, what), atFirst[what]);
                Check.due("the most", x.mend(b, what, most[what]), atFirst[what]);
                Check.due("the most", x.of(b, what), most[what]);
                Check.due("the least", x.mend(b, what, 0), most[what]);
                Check.due("the least", x.of(b, what), 0);
                int number = b, its = what;
                Edge.outside(Edge::tenBlocks, "mend(" + b + ", " + what + ", v)", 0, most[what], Edge.BAD, (w, v) -> w.mend(number, its, v));
            }
        }
    }

    private static void century() {
        Doc.terms("CENTURY (0 .. 99; 0 at first).");
        ToadWall x = new ToadWall();
        Check.due("at first", x.of(0, 7), 0);
        Check.due("99", x.mend(0, 7, 99), 0);
        Check.due("99", x.of(0, 7), 99);
        Check.due("0", x.mend(0, 7, 0), 99);
        Check.due("0", x.of(0, 7), 0);
        for (Edge.State state : Edge.ALL) Edge.outside(state, "mend(0, 7, v)", 0, 99, Edge.BAD, (w, v) -> w.mend(0, 7, v));
    }

    private static void inThought() {
        Doc.terms("======== 2 IN THOUGHT, behind n (0 .. 60) centuries: AT, WORD of one;",
            "which WORDS those not OPEN would say (bits); how many unlike THOUGHTS they are at.");
        ToadWall x = Check.at(Check.wall(0, 0, 0), 10, 9, 0);
        Check.law(x, "y=59");
        Check.due("AT behind 0", x.later(0, 0, 0), 10);
        Check.due("WORD behind 0", x.later(0, 0, 1), 0);
        Check.due("AT behind 59", x.later(59, 0, 0), 10);
        Check.due("AT behind 60", x.later(60, 0, 0), 11);
        Check.due("WORD behind 60", x.later(60, 0, 1), 1);
        Check.due("the least and the greatest bit, 10 and 0 say the same", x.wall(0, 0), 1 | 1 << 9);
        Check.due("three unlike THOUGHTS, two WORDS", x.wall(0, 1), 3);
        Check.due("behind 59", x.wall(59, 0), 1 | 1 << 9);
        Check.due("behind 60, at 11, 10 and 1", x.wall(60, 0), 1 << 1 | 1 << 0);
        Check.due("behind 60", x.wall(60, 1), 3);
        x.mend(2, 1, 10);
        Check.due("two at one THOUGHT", x.wall(0, 1), 2);
        for (int b = 0; b < 3; b++) {
            Check.due("one less is OPEN", x.wall(0, 1), b == 0 ? 2 : 3 - b);
            x.open(b);
        }
        Check.due("all are OPEN", x.wall(0, 0), 0);
        Check.due("all are OPEN", x.wall(60, 1), 0);
        Check.due("of one who is OPEN", x.later(60, 2, 0), 10);
        Check.due("nobody is there", new ToadWall().wall(60, 0), 0);
        ToadWall ten = Check.at(Check.wall(0, 0, 0, 0, 0, 0, 0, 0, 0, 0), 6, 7, 8, 9, 10, 11, 12, 13, 14, 15);
        Check.due("ten, all WORDS", ten.wall(0, 0), 1023);
        Check.due("ten, all unlike", ten.wall(0, 1), 10);
        Check.due("ten, behind 60 all at 15", ten.wall(60, 1), 1);
    }

    /** 'Those not OPEN' are all whose OPEN is 0: DEAD ones, too. */
    private static void deadAndNotOpen() {
        ToadWall x = Check.at(Check.wall(0, 0, 0), 3, 13, 8);
        x.mend(0, 4, 1);
        x.mend(1, 4, 1);
        x.mend(1, 3, 1);
        Check.due("WORDS", x.wall(0, 0), 1 << 3 | 1 << 8);
        Check.due("THOUGHTS", x.wall(60, 1), 1);
        Check.due("WHEN", x.when(0, 15), 12);
        Check.due("MEET", x.meet(2), 12);
        Check.due("FEWEST", x.fewest(1 << 3, 1), 1);
        Check.due("OPENINGS", x.openings(4, -1), 2);
        Check.due("OPENINGS, the first", x.openings(4, 0), 0);
        Check.due("CHANCE", x.chance(3, 1), 2);
        Check.due("BY TURNS", x.byTurns(2, 0), 5);
        Check.due("CHANGED", x.changed(0, 16 + 4, 0), 0);
        Check.due("JUDGED", Check.row(x, 0, 0, 3, 4, 5).judge(0, 0), Edge.NOT);
        x.mend(2, 3, 1);
        Check.due("WORDS of him alone", x.wall(0, 0), 1 << 3);
        Check.due("BY TURNS, him alone", x.byTurns(4, 1), 0);
        Check.due("opened in deed", x.open(0), 3);
    }

    private static void when() {
        Doc.terms("WHEN: behind how many (0 .. 60) one is first at a told THOUGHT; NOT.");
        ToadWall x = Check.wall(0, 0);
        x.mend(1, 1, 15);
        Check.due("there now", x.when(0, 0), 0);
        Check.due("there now, at the last THOUGHT", x.when(1, 15), 0);
        Check.law(x, "y=58");
        Check.due("behind 59", x.when(0, 1), 59);
        Check.law(x, "y=59");
        Check.due("behind 60", x.when(0, 1), 60);
        Edge.still(() -> lawful("y=60"), "behind 61", Edge.NOT, w -> w.when(0, 1));
        Edge.still(() -> lawful("0"), "never", Edge.NOT, w -> w.when(0, 15));
        x.mend(15, 5, 0);
        x.mend(0, 5, 15);
        Check.law(x, "1");
        Check.due("the first time of many", x.when(1, 0), 1);
        Check.law(x, "2");
        Check.due("he passes it by", x.when(1, 0), Edge.NOT);
    }

    /** Two blocks at 0 and 2, a law. */
    private static ToadWall lawful(String law) {
        ToadWall x = Check.wall(0, 0);
        x.mend(1, 1, 2);
        Check.law(x, law);
        return x;
    }

    private static void meet() {
        Doc.terms("MEET: behind how many two are first at the same THOUGHT; NOT.");
        Check.due("now", Check.wall(0, 9).meet(1), 0);
        Check.due("behind 1", Check.at(Check.wall(4, 0), 0, 1).meet(1), 1);
        Check.due("behind 1, by a law", lawful("2*!n").meet(1), 1);
        Check.due("behind 59", lawful("(n=0)*(y=57)+(n=0)*(y=58)").meet(1), 59);
        Check.due("behind 60", lawful("(n=0)*(y=0)+(n=0)*(y=59)").meet(1), 60);
        Check.due("behind 60, told the other way", lawful("(n=0)*(y=0)+(n=0)*(y=59)").meet(10), 60);
        Edge.still(() -> lawful("(n=0)*(y=0)+(n=0)*(y=60)"), "behind 61", Edge.NOT, w -> w.meet(1));
        Edge.still(() -> lawful("0"), "never", Edge.NOT, w -> w.meet(1));
        // He goes past the other one's THOUGHT and is not at it: the two cross.
        ToadWall cross = Check.at(Check.wall(0, 9), 1, 0);
        Check.due("they cross between, and meet at 15", cross.meet(1), 14);
    }

    private static void steps() {
        Doc.terms("STEPS from a THOUGHT to another one by LEADS (0: the same); NOT.");
        ToadWall x = new ToadWall();
        for (int t = 0; t <= 15; t++) Check.due("the same, " + t, x.steps(t, t), 0);
        Check.due("to the next", x.steps(0, 1), 1);
        Check.due("as many as can be", x.steps(0, 15), 15);
        Edge.still(Edge::fresh, "back", Edge.NOT, w -> w.steps(1, 0));
        Edge.still(Edge::fresh, "out of the last", Edge.NOT, w -> w.steps(15, 0));
        x.mend(15, 5, 0);
        Check.due("around, to the one ahead", x.steps(7, 6), 15);
        Check.due("around, not counted to itself", x.steps(7, 7), 0);
        x.mend(7, 5, 7);
        Check.due("a ring of one", x.steps(7, 8), Edge.NOT);
    }

    private static void fromRingAhead() {
        Doc.terms("FROM: from which THOUGHTS (bits) one comes to a told one (itself, too). RING: how many THOUGHTS are in the ring a THOUGHT ends in; "
            + "AHEAD: how many steps are ahead of it.");
        ToadWall x = new ToadWall();
        Check.due("FROM of 0: itself alone", x.net(0, 0), 1);
        Check.due("FROM of 15: all", x.net(15, 0), 65535);
        Check.due("FROM of 14: all but 15", x.net(14, 0), 32767);
        Check.due("RING of one", x.net(15, 1), 1);
        Check.due("RING of one, from afar", x.net(0, 1), 1);
        Check.due("AHEAD: none, in the ring", x.net(15, 2), 0);
        Check.due("AHEAD: one", x.net(14, 2), 1);
        Check.due("AHEAD: as many as can be", x.net(0, 2), 15);
        x.mend(15, 5, 14);
        Check.due("RING of two", x.net(0, 1), 2);
        Check.due("AHEAD of it", x.net(0, 2), 14);
        Check.due("FROM within the ring", x.net(14, 0), 65535);
        x.mend(15, 5, 1);
        Check.due("RING of 15", x.net(0, 1), 15);
        Check.due("AHEAD: one", x.net(0, 2), 1);
        Check.due("FROM of 0: itself alone", x.net(0, 0), 1);
        x.mend(15, 5, 0);
        for (int t = 0; t <= 15; t++) {
            Check.due("RING of all, of " + t, x.net(t, 1), 16);
            Check.due("AHEAD: none, of " + t, x.net(t, 2), 0);
            Check.due("FROM: all, of " + t, x.net(t, 0), 65535);
        }
        for (int t = 0; t <= 15; t++) x.mend(t, 5, 15);
        Check.due("all lead to 15: FROM of 15", x.net(15, 0), 65535);
        Check.due("FROM of 3", x.net(3, 0), 8);
        Check.due("AHEAD of 3", x.net(3, 2), 1);
    }

    private static void fewest() {
        Doc.terms("FEWEST: the fewest BLOCKS not OPEN that, opened now, say all told WORDS (bits; others may be said, too): how many; "
            + "which (bits; of like ones the least); NOT.");
        ToadWall x = Check.at(Check.wall(0, 0, 0, 0), 9, 0, 9, 10);
        Check.due("none is told: how many", x.fewest(0, 0), 0);
        Check.due("none is told: which", x.fewest(0, 1), 0);
        Check.due("the first WORD: how many", x.fewest(1, 0), 1);
        Check.due("the first WORD: of 1 and 3 the least", x.fewest(1, 1), 1 << 1);
        Check.due("the last WORD: how many", x.fewest(1 << 9, 0), 1);
        Check.due("the last WORD: of 0 and 2 the least", x.fewest(1 << 9, 1), 1);
        Check.due("both: how many", x.fewest(1 | 1 << 9, 0), 2);
        Check.due("both: of four pairs the least", x.fewest(1 | 1 << 9, 1), 3);
        x.open(0);
        Check.due("0 is OPEN: the least then", x.fewest(1 | 1 << 9, 1), 6);
        Edge.still(Edge::rich, "a WORD that nobody says: how many", Edge.NOT, w -> w.fewest(1 << 5, 0));
        Edge.still(Edge::rich, "a WORD that nobody says: which", Edge.NOT, w -> w.fewest(1023, 1));
        Edge.still(Edge::fresh, "nobody is there", Edge.NOT, w -> w.fewest(1, 0));
        x.open(2);
        Check.due("who says it is OPEN", x.fewest(1 << 9, 0), Edge.NOT);
        Check.due("none is told, as ever", x.fewest(0, 0), 0);
        ToadWall ten = Check.at(Check.wall(0, 0, 0, 0, 0, 0, 0, 0, 0, 0), 9, 8, 7, 6, 5, 4, 3, 2, 1, 0);
        Check.due("all ten: how many", ten.fewest(1023, 0), 10);
        Check.due("all ten: which", ten.fewest(1023, 1), 1023);
        Check.due("the last one", ten.fewest(1, 1), 1 << 9);
    }

    private static void openings() {
        Doc.terms("OPENINGS: k (0 .. 4) of those not OPEN are opened, one now, the next one a century behind it, and so on "
            + "(k at most as many as there are): by which order most unlike WORDS are said: how many; the i-th opened (of like ones the first by numbers).");
        ToadWall x = Check.wall(0, 0, 0, 0, 0);
        int[] unlike = {0, 1, 2, 3, 4};
        for (int k = 0; k <= 4; k++) {
            Check.due(k + " of five: how many", x.openings(k, -1), unlike[k]);
            for (int i = 0; i < k; i++) Check.due(k + " of five: the " + i + "-th, by numbers", x.openings(k, i), i);
        }
        // The fourth is opened behind three centuries: a step in the third one counts, a step in the fourth one does not.
        Check.law(x, "y=2");
        Check.due("three centuries pass", x.openings(4, -1), 2);
        Check.due("of three two pass", x.openings(3, -1), 1);
        Check.law(x, "y=3");
        Check.due("and not four", x.openings(4, -1), 1);
        // The first is opened now, with no century ahead of it.
        Check.law(x, "y=0");
        Check.due("the first one now", x.openings(1, -1), 1);
        Check.due("the second behind the first century", x.openings(2, -1), 2);
        // He who is opened counts as OPEN in the century behind it.
        Check.law(x, "o=1");
        Check.due("one is OPEN in the first century", x.openings(4, -1), 2);
        Check.law(x, "o=4");
        Check.due("four are OPEN in the fourth, that no one waits for", x.openings(4, -1), 1);
        Check.law(x, "o=0");
        Check.due("never is nobody OPEN", x.openings(4, -1), 1);
        ToadWall three = Check.at(Check.wall(0, 0, 0), 5, 5, 5);
        Check.due("k is four, three are there: how many", three.openings(4, -1), 3);
        Check.due("k is four, three are there: the last", three.openings(4, 2), 2);
        three.open(1);
        Check.due("two are not OPEN: how many", three.openings(4, -1), 2);
        Check.due("two are not OPEN: the first", three.openings(4, 0), 0);
        Check.due("two are not OPEN: the second", three.openings(4, 1), 2);
        three.open(0);
        three.open(2);
        Check.due("none is there", three.openings(4, -1), 0);
    }

    private static void chance() {
        Doc.terms("======== 3 CHANCE: of those not OPEN one, each alike likely, is opened now: how likely he says a told WORD: "
            + "a fraction in lowest terms (0 by 1: none is there).");
        fractionDue("none is there", new ToadWall(), 0, 0, 1);
        fractionDue("one is there", Check.wall(0), 0, 1, 1);
        fractionDue("one is there, who says another one", Check.wall(0), 9, 0, 1);
        ToadWall x = Check.at(Check.wall(0, 0, 0, 0, 0, 0, 0, 0, 0, 0), 9, 9, 9, 9, 9, 9, 9, 9, 9, 0);
        fractionDue("nine of ten", x, 9, 9, 10);
        fractionDue("one of ten", x, 0, 1, 10);
        x.mend(8, 1, 0);
        fractionDue("eight of ten, in lowest terms", x, 9, 4, 5);
        x.mend(9, 1, 9);
        x.mend(8, 1, 9);
        fractionDue("ten of ten", x, 9, 1, 1);
        fractionDue("none of ten", x, 8, 0, 1);
        for (int b = 0; b < 9; b++) x.open(b);
        fractionDue("one is not OPEN", x, 9, 1, 1);
        x.open(9);
        fractionDue("all are OPEN", x, 9, 0, 1);
    }

    private static void fractionDue(String what, ToadWall x, int word, int above, int below) {
        Check.due(what + ": chance(" + word + ", 0)", x.chance(word, 0), above);
        Check.due(what + ": chance(" + word + ", 1)", x.chance(word, 1), below);
    }

    private static void two() {
        Doc.terms("TWO: two unlike ones of them: how likely they say the same WORD (fewer than two: 0 by 1).");
        fractionDue("none", new ToadWall(), -1, 0, 1);
        fractionDue("one", Check.wall(0), -1, 0, 1);
        fractionDue("two who say the same", Check.at(Check.wall(0, 0), 0, 10), -1, 1, 1);
        fractionDue("two who don't", Check.at(Check.wall(0, 0), 0, 9), -1, 0, 1);
        ToadWall x = Check.at(Check.wall(0, 0, 0, 0, 0, 0, 0, 0, 0, 0), 9, 9, 9, 9, 9, 9, 9, 9, 9, 0);
        fractionDue("36 pairs of 45", x, -1, 4, 5);
        x.mend(9, 1, 9);
        fractionDue("45 pairs of 45", x, -1, 1, 1);
        for (int b = 0; b < 8; b++) x.open(b);
        fractionDue("two are not OPEN", x, -1, 1, 1);
        x.open(8);
        fractionDue("one is not OPEN", x, -1, 0, 1);
        x.open(9);
        fractionDue("all are OPEN", x, -1, 0, 1);
    }

    /** A book of n WORDS, all the same, on shelf 0. */
    private static ToadWall book(ToadWall x, int n, long word) {
        x.row(0, 0, n);
        for (int i = 0; i < n; i++) x.put(0, i, word);
        return x;
    }

    private static void book() {
        Doc.terms("BOOK: a ROW of bytes on a SHELF: WORDS one would say behind 0, 1, 2 .. centuries (10: not told; 41 at most count): "
            + "JUDGED: the first that is not so; NOT.");
        ToadWall x = Check.wall(0);
        Check.due("an empty book", book(x, 0, 0).judge(0, 0), Edge.NOT);
        Check.due("a book of one", book(x, 1, 0).judge(0, 0), Edge.NOT);
        long[] noWord = {1, 9, 11, 127, -128, -1, -10};
        for (long v : noWord) Check.due("the first is " + v, book(x, 1, v).judge(0, 0), 0);
        Check.due("none is told", book(x, 60, 10).judge(0, 0), Edge.NOT);
        x.mend(0, 1, 9);
        Check.due("WORD 9", book(x, 1, 9).judge(0, 0), Edge.NOT);
        Check.due("WORD 9 is not 10's", book(x, 1, 8).judge(0, 0), 0);
        // He is at 0 for 40 centuries, and at 1 behind 40: the 41st WORD.
        ToadWall late = Check.wall(0);
        Check.law(late, "y=39");
        book(late, 60, 0);
        Check.due("the 41st is not so", late.judge(0, 0), 40);
        late.put(0, 40, 1);
        Check.due("the 41st is so, the 42nd does not count", late.judge(0, 0), Edge.NOT);
        late.put(0, 40, 10);
        Check.due("the 41st is not told", late.judge(0, 0), Edge.NOT);
        late.put(0, 39, 1);
        Check.due("the 40th is not so", late.judge(0, 0), 39);
        ToadWall short40 = book(Check.wall(0), 41, 0);
        Check.law(short40, "0");
        Check.due("a book of 41", short40.judge(0, 0), Edge.NOT);
        short40.put(0, 40, 7);
        Check.due("its last is not so", short40.judge(0, 0), 40);
        short40.put(0, 3, 7);
        Check.due("of two the first", short40.judge(0, 0), 3);
    }

    private static void atsAndBeds() {
        Doc.terms("ATS: at which THOUGHTS (bits 0 .. 15) he may be now, so that all is so; BEDS: in which BEDS (bits 0 .. 9).");
        ToadWall x = Check.wall(5);
        Check.due("an empty book: ATS", book(x, 0, 0).fits(0, 0, 0), 65535);
        Check.due("an empty book: BEDS", book(x, 0, 0).fits(0, 0, 1), 1023);
        Check.due("none is told: ATS", book(x, 60, 10).fits(0, 0, 0), 65535);
        Check.due("none is told: BEDS", book(x, 60, 10).fits(0, 0, 1), 1023);
        Check.due("no WORD at all: ATS", book(x, 1, 11).fits(0, 0, 0), 0);
        Check.due("no WORD at all: BEDS", book(x, 1, -1).fits(0, 0, 1), 0);
        Check.due("bits 0 and 10", book(x, 1, 0).fits(0, 0, 0), 1 | 1 << 10);
        Check.due("bits 5 and 15", book(x, 1, 5).fits(0, 0, 0), 1 << 5 | 1 << 15);
        Check.law(x, "b=0|b=9");
        Check.row(x, 0, 0, 0, 1);
        Check.due("BEDS 0 and 9", x.fits(0, 0, 1), 1 | 1 << 9);
        Check.law(x, "y=39");
        book(x, 60, 0);
        Check.due("the 41st counts: ATS", x.fits(0, 0, 0), 0);
        Check.due("the 41st counts: BEDS", x.fits(0, 0, 1), 0);
        x.put(0, 40, 1);
        Check.due("the 42nd does not: ATS", x.fits(0, 0, 0), 1 | 1 << 10);
        Check.due("the 42nd does not: BEDS", x.fits(0, 0, 1), 1023);
    }

    private static void changed() {
        Doc.terms("CHANGED: the fewest THOUGHTS, one at most, whose LEADS must be another one so that a told one of BLOCKS is at a told THOUGHT "
            + "behind n (1 .. 40) centuries: 0: none; 1; NOT; which (16 times the THOUGHT, and its LEADS then; of like ones the least; none: 256).");
        ToadWall x = Check.wall(0);
        changeDue("none, behind 1", x, 1, 1, 0, 256);
        changeDue("none, behind 40", x, 40, 15, 0, 256);
        changeDue("the least: 0 to 0", x, 1, 0, 1, 0);
        changeDue("0 to 15", x, 1, 15, 1, 15);
        x.mend(0, 1, 15);
        changeDue("the last: 15 to 0", x, 1, 0, 1, 240);
        x.mend(15, 5, 0);
        changeDue("the greatest: 15 to 15", x, 1, 15, 1, 255);
        changeDue("15 leads to 0 as it is", x, 1, 0, 0, 256);
        ToadWall like = Check.wall(0);
        changeDue("of like ones the least: 0 to 8, not 1 to 9", like, 2, 9, 1, 8);
        changeDue("of like ones the least: 0 to 4, not 1 to 5", like, 2, 5, 1, 4);
        changeDue("0 to none of them, but 1 to 1", like, 2, 1, 1, 17);
        Check.law(like, "y=39");
        changeDue("the step of the 40th century", like, 40, 1, 0, 256);
        changeDue("the step of the 40th century, changed", like, 40, 7, 1, 7);
        changeDue("it is not in the 39th", like, 39, 0, 0, 256);
        changeDue("it is not in the 39th", like, 39, 1, Edge.NOT, Edge.NOT);
        Check.law(like, "y=40");
        changeDue("that of the 41st", like, 40, 1, Edge.NOT, Edge.NOT);
        ToadWall two = Check.wall(4);
        changeDue("0 to 0 counts for both steps of a century", two, 1, 0, 1, 0);
        two.open(0);
        changeDue("who is OPEN stays", two, 40, 0, 0, 256);
        changeDue("who is OPEN stays", two, 40, 1, Edge.NOT, Edge.NOT);
    }

    private static void changeDue(String what, ToadWall x, int n, int thought, int many, int which) {
        Check.due(what + ": how many", x.changed(0, 16 * n + thought, 0), many);
        Check.due(what + ": which", x.changed(0, 16 * n + thought, 1), which);
    }

    private static void byTurns() {
        Doc.terms("BY TURNS: two masons, n (1 .. 4) times in all, the first one first, each opens one of those not OPEN (or nobody, if none is there) "
            + "and has his WORD: WORDS of the first one less those of the other, if both do their best;");
        ToadWall x = Check.at(Check.wall(0, 0, 0, 0, 0), 1, 9, 2, 8, 7);
        int[] gain = {9, 9 - 8, 9 - 8 + 7, 9 - 8 + 7 - 2};
        for (int n = 1; n <= 4; n++) Check.due(n + " times", x.byTurns(n, 0), gain[n - 1]);
        x.open(1);
        Check.due("9 is OPEN", x.byTurns(4, 0), 8 - 7 + 2 - 1);
        x.mend(0, 3, 1);
        x.mend(2, 3, 1);
        x.mend(3, 3, 1);
        Check.due("one is there", x.byTurns(4, 0), 7);
        x.mend(4, 3, 1);
        Check.due("none is there", x.byTurns(1, 0), 0);
        Check.due("none is there", x.byTurns(4, 0), 0);
        ToadWall still = Check.at(Check.wall(0, 0), 1, 1);
        Check.law(still, "9");
        Check.due("no century passes between", still.byTurns(2, 0), 0);
    }

    private static void byTurnsWhom() {
        Doc.terms("whom the first opens (10: nobody; of like ones the least).");
        ToadWall x = Check.at(Check.wall(0, 0, 0), 9, 9, 9);
        for (int n = 1; n <= 4; n++) Check.due("of like ones the least, " + n + " times", x.byTurns(n, 1), 0);
        x.open(0);
        Check.due("of like ones the least that is not OPEN", x.byTurns(4, 1), 1);
        x.open(1);
        Check.due("the last one", x.byTurns(4, 1), 2);
        x.open(2);
        Check.due("nobody", x.byTurns(1, 1), 10);
        Check.due("nobody", x.byTurns(4, 1), 10);
        Check.due("nobody", new ToadWall().byTurns(1, 1), 10);
        // All say 0: he opens one still, for nobody is opened only if none is there.
        Check.due("he who says 0", Check.wall(0).byTurns(1, 1), 0);
        ToadWall ten = Check.wall(0, 0, 0, 0, 0, 0, 0, 0, 0, 0);
        ten.mend(9, 1, 9);
        Check.due("the tenth", ten.byTurns(1, 1), 9);
    }

    private static void constants() {
        Doc.terms("Answers, of several the one named first: BAD (-1): no such number, or it is not as said; NOT (-2): as told; FULL (-3); "
            + "STATE (-5): as told; -11 to -14. VOID is -2000000000.");
        Check.due("BAD", ToadWall.BAD, -1);
        Check.due("NOT", ToadWall.NOT, -2);
        Check.due("FULL", ToadWall.FULL, -3);
        Check.due("STATE", ToadWall.STATE, -5);
        Check.due("VOID", ToadWall.VOID, -2000000000);
    }

    /** Each pair of refusals that can meet in one call: the one named first is the answer. */
    private static void answersOfSeveral() {
        Edge.still(Edge::tenBlocks, "block: BAD, FULL", Edge.BAD, w -> w.block(10));
        Edge.still(Edge::tenBlocks, "block: BAD, FULL", Edge.BAD, w -> w.block(-1));
        Edge.still(Edge::fullTape, "feed: BAD, FULL", Edge.BAD, w -> w.feed(256));
        Edge.still(Edge::fullTape, "feed: BAD, FULL", Edge.BAD, w -> w.feed(-1));
        Edge.still(Edge::fiftyBodies, "body: BAD, FULL", Edge.BAD, w -> w.body(8));
        Edge.still(Edge::fiftyBodies, "body: BAD, FULL", Edge.BAD, w -> w.body(-1));
        Edge.still(Edge::rich, "fewest: BAD, NOT", Edge.BAD, w -> w.fewest(1023, 2));
        Edge.still(Edge::fresh, "openings: BAD, NOT", Edge.BAD, w -> w.openings(5, 0));
        Edge.still(Edge::fresh, "openings: BAD, NOT", Edge.BAD, w -> w.openings(-1, 4));
        Edge.still(Edge::rich, "changed: BAD, NOT, of one who is OPEN", Edge.BAD, w -> w.changed(1, 16 + 1 + w.of(1, 1), 2));
        for (int shelf = 1; shelf <= 3; shelf += 2) {
            int its = shelf;
            Edge.still(Edge::rich, "blocks: BAD, -12", Edge.BAD, w -> w.blocks(its, 0, 0));
            Edge.still(Edge::tenBlocks, "blocks: BAD, -12", Edge.BAD, w -> w.blocks(its, 0, 11));
            Edge.still(Edge::tenBlocks, "blocks: -12, and they are FULL", -12, w -> w.blocks(its, 0, 1));
            Edge.still(Edge::rich, "blocks: -12, and no such place", -12, w -> w.blocks(its, 99, 1));
            Edge.still(Edge::rich, "judge: BAD, -12", Edge.BAD, w -> w.judge(its, 4));
            Edge.still(Edge::rich, "fits: BAD, -12", Edge.BAD, w -> w.fits(its, 4, 0));
            Edge.still(Edge::rich, "fits: BAD, -12", Edge.BAD, w -> w.fits(its, 0, 2));
            Edge.still(Edge::rich, "taken: BAD, -12", Edge.BAD, w -> w.taken(its, 8));
        }
        Edge.still(Edge::rich, "blocks: BAD, and the shelf holds nothing", Edge.BAD, w -> w.blocks(0, 0, 0));
        Edge.still(Edge::rich, "judge: BAD, -11", Edge.BAD, w -> w.judge(0, 4));
        Edge.still(Edge::rich, "judge: BAD, -11", Edge.BAD, w -> w.judge(0, -1));
        Edge.still(Edge::rich, "fits: BAD, -11", Edge.BAD, w -> w.fits(0, 4, 0));
        Edge.still(Edge::rich, "fits: BAD, -11", Edge.BAD, w -> w.fits(0, 0, 2));
        Edge.still(Edge::rich, "taken: BAD, -11", Edge.BAD, w -> w.taken(0, 8));
        Edge.still(Edge::rich, "row: BAD, -14", Edge.BAD, w -> w.row(2, 5, -1));
        Edge.still(Edge::rich, "row: BAD, -14", Edge.BAD, w -> w.row(2, -1, -1));
        Edge.still(Edge::rich, "row: BAD, -14", Edge.BAD, w -> w.row(6, 0, -1));
        Edge.still(Edge::rich, "put: BAD, -13", Edge.BAD, w -> w.put(6, -1, 1));
        Edge.still(Edge::rich, "put: -11, -13", -11, w -> w.put(0, -1, 1));
        Edge.still(Edge::rich, "put: -12, -13", -12, w -> w.put(1, -1, 1));
        Edge.still(Edge::rich, "shift: BAD, -11", Edge.BAD, w -> w.shift(0, 0, 6, 0, 1));
        Edge.still(Edge::rich, "shift: BAD, -12", Edge.BAD, w -> w.shift(-1, 0, 1, 0, 1));
        Edge.still(Edge::rich, "shift: BAD, -13", Edge.BAD, w -> w.shift(2, 9, 6, 9, -1));
        Edge.still(Edge::rich, "shift: -11, -12", -11, w -> w.shift(0, 0, 1, 0, 1));
        Edge.still(Edge::rich, "shift: -11, -12", -11, w -> w.shift(1, 0, 0, 0, 1));
        Edge.still(Edge::rich, "shift: -11, -13", -11, w -> w.shift(2, 9, 0, 0, 1));
        Edge.still(Edge::rich, "shift: -11, -13", -11, w -> w.shift(0, -1, 2, -1, -1));
        Edge.still(Edge::rich, "shift: -12, -13", -12, w -> w.shift(1, -1, 2, 9, 1));
        Edge.still(Edge::rich, "shift: -12, -13", -12, w -> w.shift(2, 9, 3, 9, -1));
    }

    private static void changesNothing() {
        Doc.terms("What is answered so changes nothing. All memory is the class's own.");
        // Edge.still asks for each refusal with a twin beside it; here: what one wall, one row is told does not reach another.
        ToadWall one = Edge.rich(), other = Edge.rich();
        one.put(2, 0, 3);
        one.mend(4, 6, 0);
        Check.due("the other wall's row", other.element(2, 0), 9);
        Check.due("the other wall's WORD", other.of(4, 6), 4);
        Check.due("a three is copied", one.blocks(2, 0, 1), 1);
        one.put(2, 0, 8);
        Check.due("a BLOCK does not go by its row any more", one.of(4, 0), 3);
    }

    private static void headings() {
        Doc.terms("Ahead of the calls `block`, `blocks`, `mend`, `of`, `feed`, `law`, `goes` the interface says: ---- blocks, thoughts.");
        headingDue("blocks, thoughts", "block", "blocks", "mend", "of", "feed", "law", "goes");
        Doc.terms("Ahead of the calls `later`, `wall`, `when`, `meet`, `steps`, `net`, `fewest`, `openings` the interface says: ---- centuries in thought.");
        headingDue("centuries in thought", "later", "wall", "when", "meet", "steps", "net", "fewest", "openings");
        Doc.terms("Ahead of the calls `chance`, `judge`, `fits`, `changed`, `byTurns`, `drawn` the interface says: ---- chances, books.");
        headingDue("chances, books", "chance", "judge", "fits", "changed", "byTurns", "drawn");
        Doc.terms("Ahead of the calls `century`, `open`, `hours`, `led`, `image`, `back`, `undo`, `redo` the interface says: ---- in deed.");
        headingDue("in deed", "century", "open", "hours", "led", "image", "back", "undo", "redo");
        Doc.terms("Ahead of the calls `body`, `act`, `trace`, `keep`, `row`, `put`, `element`, `shift`, `taken`, `count` the interface says: ---- acts, shelves.");
        headingDue("acts, shelves", "body", "act", "trace", "keep", "row", "put", "element", "shift", "taken", "count");
    }

    /** These calls, and no others, stand under their heading in the source. */
    private static void headingDue(String heading, String... calls) {
        String[] behind = source().split("// ---- " + heading + "\n", -1);
        Check.due("headings " + heading, behind.length, 2);
        List<String> found = new ArrayList<>();
        Matcher face = Pattern.compile("(?m)^    public \\w+ (\\w+)\\(").matcher(behind[behind.length - 1].split("// ---- ")[0]);
        while (face.find()) found.add(face.group(1));
        Check.holds("under " + heading + ": " + found, found.equals(Arrays.asList(calls)));
    }

    private static String source() {
        try {
            return Files.readString(Path.of("src/main/java/ToadWall.java"));
        } catch (IOException e) {
            throw new UncheckedIOException(e);
        }
    }
}
