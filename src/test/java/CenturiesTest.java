/** Promises 9 to 16: centuries in thought. */
public final class CenturiesTest {
    public static void main(String[] args) {
        later();
        wall();
        when();
        meet();
        steps();
        net();
        fewest();
        openings();
        openingsByLaw();
        tenBlocks();
        Check.end("CenturiesTest");
    }

    private static void later() {
        ToadWall x = Check.wall(0, 9);
        Check.due("9: later(0, 1, 0)", x.later(0, 1, 0), 0);
        Check.due("9: later(3, 1, 0)", x.later(3, 1, 0), 9);
        Check.due("9: later(4, 1, 1)", x.later(4, 1, 1), 2);
        Check.due("9: later(60, 0, 0)", x.later(60, 0, 0), 15);
        Check.due("9: later(61, 0, 0)", x.later(61, 0, 0), ToadWall.BAD);
        Check.due("9: later(-1, 0, 0)", x.later(-1, 0, 0), ToadWall.BAD);
        Check.due("9: later(1, 2, 0)", x.later(1, 2, 0), ToadWall.BAD);
        Check.due("9: later(1, -1, 0)", x.later(1, -1, 0), ToadWall.BAD);
        Check.due("9: later(1, 0, 2)", x.later(1, 0, 2), ToadWall.BAD);
        Check.due("9: later(1, 0, -1)", x.later(1, 0, -1), ToadWall.BAD);
        Check.law(x, "a%3+1");
        // The law is worked out ahead of the first step: 0, 1, 3, 4, 6.
        Check.due("9: by where he is", x.later(4, 0, 0), 6);
        Check.law(x, "y");
        Check.due("9: by the century", x.later(4, 0, 0), 6);
        x.mend(0, 7, 98);
        x.mend(15, 5, 0);
        Check.law(x, "y-94");
        // 98: 4 steps, 99: 5, 99 stays: 5.
        Check.due("9: 99 stays", x.later(3, 0, 0), 14);
        x.open(0);
        Check.due("9: who is OPEN stays", x.later(3, 0, 0), 0);
        Check.law(x, "o");
        Check.due("9: by how many are OPEN", x.later(5, 1, 0), 5);
        Check.due("9: nothing has passed", x.of(0, 7) * 100 + x.of(1, 1), 9800);
        x.mend(1, 4, 1);
        Check.due("9: who is DEAD, and not OPEN, goes on", x.later(5, 1, 0), 5);
    }

    private static void wall() {
        ToadWall x = Check.at(Check.wall(0, 0, 0, 4), 0, 10, 5, 5);
        Check.due("10: wall(0, 0)", x.wall(0, 0), 1 | 1 << 5);
        Check.due("10: wall(0, 1)", x.wall(0, 1), 3);
        Check.due("10: wall(1, 0)", x.wall(1, 0), 1 << 1 | 1 << 6 | 1 << 7);
        Check.due("10: wall(1, 1)", x.wall(1, 1), 4);
        Check.due("10: wall(60, 0)", x.wall(60, 0), 1 << 5);
        Check.due("10: wall(60, 1)", x.wall(60, 1), 1);
        x.open(3);
        Check.due("10: without who is OPEN", x.wall(1, 0), 1 << 1 | 1 << 6);
        Check.due("10: without who is OPEN", x.wall(1, 1), 3);
        x.mend(0, 4, 1);
        Check.due("10: with who is DEAD alone", x.wall(1, 1), 3);
        x.mend(11, 6, 9);
        Check.due("10: a WORD mended", x.wall(1, 0), 1 << 1 | 1 << 6 | 1 << 9);
        Check.due("10: wall(61, 0)", x.wall(61, 0), ToadWall.BAD);
        Check.due("10: wall(-1, 0)", x.wall(-1, 0), ToadWall.BAD);
        Check.due("10: wall(0, 2)", x.wall(0, 2), ToadWall.BAD);
        Check.due("10: wall(0, -1)", x.wall(0, -1), ToadWall.BAD);
        Check.due("10: WORD 0", Check.wall(0).wall(0, 0), 1);
        Check.due("10: no blocks", new ToadWall().wall(5, 1), 0);
    }

    private static void when() {
        ToadWall x = Check.wall(0, 4);
        Check.due("11: when(0, 0)", x.when(0, 0), 0);
        Check.due("11: when(0, 7)", x.when(0, 7), 7);
        Check.due("11: when(1, 6)", x.when(1, 6), 3);
        Check.due("11: passed by", x.when(1, 7), ToadWall.NOT);
        Check.due("11: when(1, 15)", x.when(1, 15), 8);
        Check.law(x, "y=59");
        Check.due("11: behind 60", x.when(0, 1), 60);
        Check.law(x, "y=60");
        Check.due("11: behind 61", x.when(0, 1), ToadWall.NOT);
        Check.due("11: when(2, 0)", x.when(2, 0), ToadWall.BAD);
        Check.due("11: when(-1, 0)", x.when(-1, 0), ToadWall.BAD);
        Check.due("11: when(0, 16)", x.when(0, 16), ToadWall.BAD);
        Check.due("11: when(0, -1)", x.when(0, -1), ToadWall.BAD);
        Check.law(x, "1");
        x.open(0);
        Check.due("11: OPEN, there", x.when(0, 0), 0);
        Check.due("11: OPEN, not there", x.when(0, 1), ToadWall.NOT);
    }

    private static void meet() {
        ToadWall x = Check.at(Check.wall(0, 4, 0, 4), 3, 0, 3, 1);
        Check.due("12: meet(1)", x.meet(1), 3);
        Check.due("12: meet(10)", x.meet(10), 3);
        Check.due("12: meet(2)", x.meet(2), 0);
        Check.due("12: meet(13)", x.meet(13), 8);
        Check.law(x, "(n=1)&(y=59)");
        x.mend(1, 1, 2);
        Check.due("12: behind 60", x.meet(1), 60);
        Check.law(x, "(n=1)&(y=60)");
        Check.due("12: behind 61", x.meet(1), ToadWall.NOT);
        Check.due("12: meet(0)", x.meet(0), ToadWall.BAD);
        Check.due("12: meet(11)", x.meet(11), ToadWall.BAD);
        Check.due("12: meet(4)", x.meet(4), ToadWall.BAD);
        Check.due("12: meet(40)", x.meet(40), ToadWall.BAD);
        Check.due("12: meet(-1)", x.meet(-1), ToadWall.BAD);
        Check.due("12: meet(-10)", x.meet(-10), ToadWall.BAD);
        Check.due("12: meet(101)", x.meet(101), ToadWall.BAD);
        Check.law(x, "1");
        x.open(0);
        Check.due("12: OPEN he waits", x.meet(1), 1);
    }

    private static void tenBlocks() {
        ToadWall x = Check.at(Check.wall(0, 0, 0, 0, 0, 0, 0, 0, 4, 0), 1, 2, 3, 4, 5, 6, 7, 9, 8, 10);
        Check.due("9: of the last", x.later(3, 9, 0), 13);
        Check.due("10: of ten", x.wall(0, 0), 1023);
        Check.due("10: of ten", x.wall(1, 1), 9);
        Check.due("11: of the last", x.when(9, 15), 5);
        Check.due("12: of the last two", x.meet(89), 2);
        Check.due("12: of the last two", x.meet(98), 2);
        Check.due("12: of the last but one, and the one ahead", x.meet(78), 1);
        Check.due("15: of ten", x.fewest(1 << 0 | 1 << 8, 1), 1 << 8 | 1 << 9);
        Check.due("16: of ten", x.openings(4, -1), 4);
        x.open(9);
        Check.due("16: of nine", x.openings(3, 0), 0);
    }

    private static void steps() {
        ToadWall x = new ToadWall();
        Check.due("13: steps(15, 15)", x.steps(15, 15), 0);
        Check.due("13: steps(2, 9)", x.steps(2, 9), 7);
        Check.due("13: steps(9, 2)", x.steps(9, 2), ToadWall.NOT);
        x.mend(15, 5, 0);
        Check.due("13: steps(9, 2)", x.steps(9, 2), 9);
        Check.due("13: all around", x.steps(3, 2), 15);
        x.mend(4, 5, 4);
        Check.due("13: steps(3, 5)", x.steps(3, 5), ToadWall.NOT);
        Check.due("13: steps(-1, 0)", x.steps(-1, 0), ToadWall.BAD);
        Check.due("13: steps(16, 0)", x.steps(16, 0), ToadWall.BAD);
        Check.due("13: steps(0, 16)", x.steps(0, 16), ToadWall.BAD);
        Check.due("13: steps(0, -1)", x.steps(0, -1), ToadWall.BAD);
    }

    private static void net() {
        ToadWall x = new ToadWall();
        Check.due("14: FROM of 3", x.net(3, 0), 15);
        Check.due("14: RING of 3", x.net(3, 1), 1);
        Check.due("14: AHEAD of 3", x.net(3, 2), 12);
        Check.due("14: AHEAD of 15", x.net(15, 2), 0);
        x.mend(15, 5, 0);
        Check.due("14: FROM all", x.net(3, 0), 65535);
        Check.due("14: RING of all", x.net(3, 1), 16);
        Check.due("14: AHEAD of none", x.net(3, 2), 0);
        x.mend(8, 5, 6);
        // 0 .. 5 lead to the ring 6, 7, 8; 9 .. 15 lead to 0.
        Check.due("14: RING of 9", x.net(9, 1), 3);
        Check.due("14: AHEAD of 9", x.net(9, 2), 13);
        Check.due("14: AHEAD of 7", x.net(7, 2), 0);
        Check.due("14: FROM of 9", x.net(9, 0), 1 << 9);
        Check.due("14: FROM of 7", x.net(7, 0), 65535);
        Check.due("14: FROM of 1", x.net(1, 0), 0xFE03);
        Check.due("14: net(-1, 0)", x.net(-1, 0), ToadWall.BAD);
        Check.due("14: net(16, 0)", x.net(16, 0), ToadWall.BAD);
        Check.due("14: net(0, 3)", x.net(0, 3), ToadWall.BAD);
        Check.due("14: net(0, -1)", x.net(0, -1), ToadWall.BAD);
    }

    private static void fewest() {
        ToadWall x = Check.at(Check.wall(0, 0, 0, 0, 0), 3, 5, 13, 7, 15);
        Check.due("15: two", x.fewest(1 << 3 | 1 << 5, 0), 2);
        Check.due("15: the least two", x.fewest(1 << 3 | 1 << 5, 1), 3);
        Check.due("15: one", x.fewest(1 << 7, 1), 8);
        Check.due("15: none told", x.fewest(0, 0), 0);
        Check.due("15: none told", x.fewest(0, 1), 0);
        Check.due("15: one that nobody says", x.fewest(1 << 3 | 1 << 4, 0), ToadWall.NOT);
        Check.due("15: one that nobody says", x.fewest(1 << 4, 1), ToadWall.NOT);
        x.open(0);
        Check.due("15: another one says it", x.fewest(1 << 3 | 1 << 5, 1), 6);
        x.open(2);
        Check.due("15: all are OPEN that say it", x.fewest(1 << 3, 0), ToadWall.NOT);
        Check.due("15: fewest(1023, 0)", x.fewest(1023, 0), ToadWall.NOT);
        Check.due("15: fewest(1024, 0)", x.fewest(1024, 0), ToadWall.BAD);
        Check.due("15: fewest(-1, 0)", x.fewest(-1, 0), ToadWall.BAD);
        Check.due("15: fewest(1, 2)", x.fewest(1, 2), ToadWall.BAD);
        Check.due("15: fewest(1, -1)", x.fewest(1, -1), ToadWall.BAD);
        ToadWall all = Check.at(Check.wall(0, 0, 0, 0, 0, 0, 0, 0, 0, 0), 0, 1, 2, 3, 4, 5, 6, 7, 8, 9);
        Check.due("15: all ten", all.fewest(1023, 0), 10);
        Check.due("15: all ten", all.fewest(1023, 1), 1023);
    }

    private static void openings() {
        ToadWall x = Check.at(Check.wall(0, 0, 0), 4, 3, 3);
        // Opened now and a century later: 0 then 1 says 4, 4; 0 then 2 likewise; 1 then 0 says 3, 5.
        Check.due("16: how many of two", x.openings(2, -1), 2);
        Check.due("16: the first", x.openings(2, 0), 1);
        Check.due("16: the second", x.openings(2, 1), 0);
        Check.due("16: there is no third", x.openings(2, 2), ToadWall.NOT);
        Check.due("16: the first by numbers", x.openings(1, 0), 0);
        Check.due("16: how many of one", x.openings(1, -1), 1);
        // 1, 0, 2 says 3, 5, 5; 1, 2, 0 says 3, 4, 6.
        Check.due("16: how many of three", x.openings(3, -1), 3);
        Check.due("16: the order", x.openings(3, 0) * 100 + x.openings(3, 1) * 10 + x.openings(3, 2), 120);
        Check.due("16: four, but three are there", x.openings(4, 2), 0);
        Check.due("16: and no fourth", x.openings(4, 3), ToadWall.NOT);
        Check.due("16: none", x.openings(0, -1), 0);
        Check.due("16: none", x.openings(0, 0), ToadWall.NOT);
        Check.due("16: openings(-1, -1)", x.openings(-1, -1), ToadWall.BAD);
        Check.due("16: openings(5, 0)", x.openings(5, 0), ToadWall.BAD);
        Check.due("16: openings(2, -2)", x.openings(2, -2), ToadWall.BAD);
        Check.due("16: openings(2, 99)", x.openings(2, 99), ToadWall.NOT);
        Check.due("16: nobody is OPEN by it", x.count(1), 0);
        x.open(1);
        Check.due("16: without who is OPEN", x.openings(4, -1), 2);
        Check.due("16: without who is OPEN", x.openings(4, 0), 2);
    }

    private static void openingsByLaw() {
        // Each goes on by how many are OPEN: 0 0 0 0, then 1, then 3, then 6.
        ToadWall x = Check.wall(0, 0, 0, 0);
        Check.law(x, "o");
        Check.due("16: by how many are OPEN", x.openings(4, -1), 4);
        x.mend(3, 6, 0);
        Check.due("16: WORDS 0, 1, 0, 6", x.openings(4, -1), 3);
        x.mend(6, 6, 1);
        Check.due("16: WORDS 0, 1, 0, 1", x.openings(4, -1), 2);
        Check.due("16: the first by numbers", x.openings(4, 3), 3);
        Check.law(x, "y");
        x.mend(0, 7, 99);
        // 99 stays: 9 steps a century, and 15 stays.
        Check.due("16: WORDS 0, 9, 5, 5", x.openings(4, -1), 3);
    }
}
