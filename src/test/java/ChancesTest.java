/** Promises 17 to 22: chances, books. */
public final class ChancesTest {
    public static void main(String[] args) {
        chance();
        two();
        judge();
        fits();
        changed();
        byTurns();
        drawn();
        drawnWrongly();
        tenBlocks();
        Check.end("ChancesTest");
    }

    private static void fractionDue(ToadWall x, int word, long above, long below) {
        Check.due("17: chance(" + word + ", 0)", x.chance(word, 0), above);
        Check.due("17: chance(" + word + ", 1)", x.chance(word, 1), below);
    }

    private static void chance() {
        ToadWall x = Check.at(Check.wall(0, 0, 0, 0, 0, 0), 4, 14, 4, 9, 9, 0);
        fractionDue(x, 4, 1, 2);
        fractionDue(x, 9, 1, 3);
        fractionDue(x, 0, 1, 6);
        fractionDue(x, 1, 0, 1);
        x.open(0);
        fractionDue(x, 4, 2, 5);
        x.mend(5, 4, 1);
        fractionDue(x, 0, 1, 5);
        fractionDue(new ToadWall(), 3, 0, 1);
        ToadWall one = Check.wall(0);
        fractionDue(one, 0, 1, 1);
        one.open(0);
        fractionDue(one, 0, 0, 1);
        Check.due("17: chance(-2, 0)", x.chance(-2, 0), Long.MIN_VALUE);
        Check.due("17: chance(10, 0)", x.chance(10, 0), Long.MIN_VALUE);
        Check.due("17: chance(0, 2)", x.chance(0, 2), Long.MIN_VALUE);
        Check.due("17: chance(0, -1)", x.chance(0, -1), Long.MIN_VALUE);
    }

    private static void two() {
        ToadWall x = Check.at(Check.wall(0, 0, 0, 0, 0, 0), 4, 14, 4, 9, 9, 0);
        fractionDue(x, -1, 4, 15);
        x.open(5);
        fractionDue(x, -1, 2, 5);
        x.open(0);
        fractionDue(x, -1, 1, 3);
        x.open(1);
        x.open(2);
        fractionDue(x, -1, 1, 1);
        x.open(3);
        fractionDue(x, -1, 0, 1);
        x.open(4);
        fractionDue(x, -1, 0, 1);
        fractionDue(Check.at(Check.wall(0, 0), 1, 2), -1, 0, 1);
    }

    private static void judge() {
        ToadWall x = Check.row(Check.wall(0, 4), 0, 0, 0, 1, 2, 3);
        Check.due("18: all is so", x.judge(0, 0), ToadWall.NOT);
        Check.due("18: not the second", x.judge(0, 1), 1);
        x.put(0, 3, 4);
        Check.due("18: not the last", x.judge(0, 0), 3);
        x.put(0, 3, 10);
        Check.due("18: the last is not told", x.judge(0, 0), ToadWall.NOT);
        x.put(0, 0, 11);
        Check.due("18: no WORD at all", x.judge(0, 0), 0);
        x.put(0, 0, -1);
        Check.due("18: no WORD at all", x.judge(0, 0), 0);
        x.put(0, 0, 256);
        Check.due("18: the lowest bits", x.judge(0, 0), ToadWall.NOT);
        Check.row(x, 1, 0);
        Check.due("18: an empty book", x.judge(1, 0), ToadWall.NOT);
        long[] book = new long[60];
        for (int i = 0; i < 60; i++) book[i] = i < 16 ? i % 10 : 5;
        book[41] = 7;
        Check.row(x, 2, 0, book);
        Check.due("18: 41 at most count", x.judge(2, 0), ToadWall.NOT);
        x.put(2, 40, 7);
        Check.due("18: the 41st counts", x.judge(2, 0), 40);
        x.row(3, 1, 3);
        Check.due("18: a row of shorts", x.judge(3, 0), -12);
        x.row(3, 4, 3);
        Check.due("18: a row of booleans", x.judge(3, 0), -12);
        x.body(0);
        x.keep(3, 0);
        Check.due("18: a toad", x.judge(3, 0), -12);
        Check.due("18: nothing", x.judge(4, 0), -11);
        Check.due("18: BAD comes ahead of -11", x.judge(4, 2), ToadWall.BAD);
        Check.due("18: judge(4, -1)", x.judge(4, -1), ToadWall.BAD);
        Check.due("18: judge(6, 0)", x.judge(6, 0), ToadWall.BAD);
        Check.due("18: judge(-1, 0)", x.judge(-1, 0), ToadWall.BAD);
        x.open(1);
        Check.row(x, 0, 0, 0, 0, 0, 1);
        Check.due("18: who is OPEN stays", x.judge(0, 1), 3);
    }

    private static void fits() {
        ToadWall x = Check.row(Check.wall(0, 5), 0, 0, 3, 4, 10, 6);
        Check.due("19: ATS of 0", x.fits(0, 0, 0), 1 << 3);
        Check.due("19: ATS of 1", x.fits(0, 1, 0), 0);
        Check.due("19: BEDS of 0, who is at 0", x.fits(0, 0, 1), 0);
        x.mend(0, 1, 3);
        x.mend(1, 1, 3);
        Check.due("19: BEDS of 0", x.fits(0, 0, 1), 15);
        Check.due("19: BEDS of 1", x.fits(0, 1, 1), 15);
        Check.law(x, "b>6|n");
        Check.due("19: BEDS by a law", x.fits(0, 0, 1), 7 << 7);
        Check.due("19: BEDS of 1 by his number", x.fits(0, 1, 1), 1023);
        Check.row(x, 1, 0, 5, 5);
        Check.law(x, "1");
        Check.due("19: 15 stays", x.fits(1, 0, 0), 1 << 15);
        x.open(0);
        Check.due("19: who is OPEN stays", x.fits(1, 0, 0), 1 << 15 | 1 << 5);
        Check.due("19: he is not there", x.fits(1, 0, 1), 0);
        Check.row(x, 2, 0);
        Check.due("19: an empty book", x.fits(2, 0, 0), 65535);
        Check.due("19: an empty book", x.fits(2, 0, 1), 1023);
        Check.due("19: he is as he was", x.of(0, 0) * 100 + x.of(0, 1), 3);
        Check.due("19: fits(3, 0, 0)", x.fits(3, 0, 0), -11);
        x.row(3, 3, 1);
        Check.due("19: a row of longs", x.fits(3, 0, 1), -12);
        Check.due("19: BAD comes ahead of -12", x.fits(3, 0, 2), ToadWall.BAD);
        Check.due("19: fits(0, 0, -1)", x.fits(0, 0, -1), ToadWall.BAD);
        Check.due("19: fits(6, 0, 0)", x.fits(6, 0, 0), ToadWall.BAD);
        Check.due("19: fits(-1, 0, 0)", x.fits(-1, 0, 0), ToadWall.BAD);
        Check.due("19: fits(0, 2, 0)", x.fits(0, 2, 0), ToadWall.BAD);
    }

    private static void changed() {
        ToadWall x = Check.wall(0, 4);
        Check.due("20: none must be", x.changed(0, 16 * 5 + 5, 0), 0);
        Check.due("20: none must be", x.changed(0, 16 * 5 + 5, 1), 256);
        Check.due("20: one must be", x.changed(0, 16 * 2 + 9, 0), 1);
        Check.due("20: 0 to 8", x.changed(0, 16 * 2 + 9, 1), 8);
        Check.due("20: 0 to 0", x.changed(0, 16 * 40, 1), 0);
        Check.due("20: of the other one: 0 to 12, 12, 13", x.changed(1, 16 + 13, 1), 12);
        Check.law(x, "0");
        Check.due("20: he never goes on", x.changed(0, 16 * 3 + 1, 0), ToadWall.NOT);
        Check.due("20: he never goes on", x.changed(0, 16 * 3 + 1, 1), ToadWall.NOT);
        Check.law(x, "1");
        x.mend(0, 1, 7);
        Check.due("20: of the 7th, 16 * 7 + 2", x.changed(0, 16 + 2, 1), 16 * 7 + 2);
        x.open(0);
        Check.due("20: OPEN, there", x.changed(0, 16 + 7, 0), 0);
        Check.due("20: OPEN, not there", x.changed(0, 16 + 8, 0), ToadWall.NOT);
        for (int t = 0; t < 16; t++) Check.due("20: LEADS are as they were", x.of(t, 5), Math.min(15, t + 1));
        Check.due("20: nothing to undo but one", x.count(3), 1);
        Check.due("20: n 0", x.changed(1, 15, 0), ToadWall.BAD);
        Check.due("20: n 40", x.changed(1, 16 * 40 + 15, 0), 0);
        Check.due("20: n 41", x.changed(1, 16 * 41, 0), ToadWall.BAD);
        Check.due("20: nt -1", x.changed(1, -1, 0), ToadWall.BAD);
        Check.due("20: no such one", x.changed(2, 16, 0), ToadWall.BAD);
        Check.due("20: no such one", x.changed(-1, 16, 0), ToadWall.BAD);
        Check.due("20: what 2", x.changed(1, 16, 2), ToadWall.BAD);
        Check.due("20: what -1", x.changed(1, 16, -1), ToadWall.BAD);
    }

    private static void byTurns() {
        ToadWall x = Check.at(Check.wall(0, 0, 0, 0, 0), 3, 8, 5, 9, 1);
        int[] gains = {9, 1, 6, 3};
        for (int n = 1; n <= 4; n++) {
            Check.due("21: byTurns(" + n + ", 0)", x.byTurns(n, 0), gains[n - 1]);
            Check.due("21: byTurns(" + n + ", 1)", x.byTurns(n, 1), 3);
        }
        Check.due("21: byTurns(0, 0)", x.byTurns(0, 0), ToadWall.VOID);
        Check.due("21: byTurns(5, 0)", x.byTurns(5, 0), ToadWall.VOID);
        Check.due("21: byTurns(1, 2)", x.byTurns(1, 2), ToadWall.VOID);
        Check.due("21: byTurns(1, -1)", x.byTurns(1, -1), ToadWall.VOID);
        x.open(3);
        Check.due("21: without who is OPEN", x.byTurns(2, 0), 3);
        Check.due("21: without who is OPEN", x.byTurns(2, 1), 1);
        Check.due("21: nobody is OPEN by it", x.count(1), 1);
        ToadWall like = Check.at(Check.wall(0, 0, 0), 3, 5, 5);
        Check.due("21: 5 - 5 + 3", like.byTurns(3, 0), 3);
        Check.due("21: 3 - 5 + 5 is as good, and 0 is the least", like.byTurns(3, 1), 0);
        Check.due("21: of two 5 the least", like.byTurns(2, 1), 1);
        Check.due("21: four times, but three are there", like.byTurns(4, 0), 3);
        ToadWall one = Check.wall(0);
        Check.due("21: he must be opened", one.byTurns(1, 1), 0);
        Check.due("21: he must be opened", one.byTurns(4, 0), 0);
        one.open(0);
        Check.due("21: nobody", one.byTurns(1, 1), 10);
        Check.due("21: nobody", one.byTurns(4, 0), 0);
        ToadWall bad = Check.at(Check.wall(0, 0), 0, 9);
        Check.due("21: the first has 9, the other 0", bad.byTurns(2, 0), 9);
    }

    private static int z(int seed, int times) {
        int z = seed;
        for (int i = 0; i < times; i++) z = z * 1103515245 + 12345;
        return z;
    }

    private static void drawn() {
        // One block, ZEAL 12: he is opened at once in each age, and says where he is now.
        ToadWall x = Check.at(Check.wall(0), 7);
        Check.due("22: thirty times 7", x.drawn(1, 306012, -1), 210);
        Check.due("22: OPEN in all ages", x.drawn(1, 306012, 0), 30);
        Check.due("22: ZEAL 0", x.drawn(1, 306000, -1), 0);
        Check.due("22: ZEAL 0", x.drawn(1, 306000, 0), 0);
        for (int seed = -40; seed < 40; seed++) {
            int zeal = 5, first = z(seed, 1), second = z(seed, 2);
            int want = (first >>> 16) % 12 < zeal ? 7 : (second >>> 16) % 12 < zeal ? 8 : 0;
            Check.due("22: one age of two centuries by " + seed, x.drawn(seed, 10200 + zeal, -1), want);
            Check.due("22: OPEN at its end", x.drawn(seed, 10200 + zeal, 0), want > 0 ? 1 : 0);
            int both = ((first >>> 16) % 12 < zeal ? 7 : 0) + ((second >>> 16) % 12 < zeal ? 7 : 0);
            Check.due("22: two ages of one century by " + seed, x.drawn(seed, 20100 + zeal, -1), both);
        }
        ToadWall three = Check.at(Check.wall(0, 0, 0), 4, 6, 9);
        for (int seed = 0; seed < 20; seed++) {
            int whom = (z(seed, 1) >>> 8) % 3;
            Check.due("22: whom by " + seed, three.drawn(seed, 10112, -1), new int[] {4, 6, 9}[whom]);
            for (int b = 0; b < 3; b++) Check.due("22: he alone", three.drawn(seed, 10112, b), b == whom ? 1 : 0);
        }
        three.open(1);
        Check.due("22: OPEN from now on", three.drawn(3, 50100, 1), 5);
        Check.due("22: nothing has passed", three.of(0, 1) * 100 + three.of(0, 7) * 10 + three.count(1), 401);
        Check.due("22: nothing is led", three.led(0) * 10 + three.led(1), 1);
        // Who is opened at first counts for the other by o.
        ToadWall law = Check.at(Check.wall(0, 0), 1, 1);
        Check.law(law, "o*5");
        for (int seed = 0; seed < 20; seed++) {
            int a = (z(seed, 1) >>> 8) % 2, b = (z(seed, 2) >>> 8) % 2;
            Check.due("22: the other goes on by five", law.drawn(seed, 10212, -1), a == b ? 1 : 1 + 6);
        }
        Check.law(law, "o*4");
        law.block(0);
        law.open(2);
        for (int seed = 0; seed < 20; seed++) {
            int said = 0;
            for (int age = 0; age < 2; age++) {
                int a = (z(seed, 2 * age + 1) >>> 8) % 3, b = (z(seed, 2 * age + 2) >>> 8) % 3;
                if (a != 2) said += 1;
                // One is OPEN from now on: four steps on, or eight behind an opening.
                if (b != 2 && b != a) said += a == 2 ? 5 : 9;
            }
            Check.due("22: two ages by o, by " + seed, law.drawn(seed, 20212, -1), said);
        }
    }

    private static void tenBlocks() {
        ToadWall x = Check.row(Check.at(Check.wall(0, 0, 0, 0, 0, 0, 0, 0, 0, 0), 0, 1, 2, 3, 4, 5, 6, 7, 8, 9), 0, 0, 9, 0, 1);
        fractionDue(x, 9, 1, 10);
        fractionDue(x, -1, 0, 1);
        Check.due("18: of the last", x.judge(0, 9), ToadWall.NOT);
        Check.due("19: of the last", x.fits(0, 9, 0), 1 << 9);
        Check.due("20: of the last", x.changed(9, 16 + 4, 1), 16 * 9 + 4);
        Check.due("21: 9 - 8 + 7 - 6", x.byTurns(4, 0), 2);
        Check.due("21: the last", x.byTurns(4, 1), 9);
        int whom = (z(5, 1) >>> 8) % 10;
        for (int b = 0; b < 10; b++) Check.due("22: of ten", x.drawn(5, 10112, b), b == whom ? 1 : 0);
        for (int seed = 0; seed < 200; seed++) {
            if ((z(seed, 1) >>> 8) % 10 == 9) Check.due("22: of the last", x.drawn(seed, 10112, 9), 1);
        }
        for (int b = 0; b < 10; b++) x.open(b);
        Check.due("21: nobody", x.byTurns(4, 1), 10);
        fractionDue(x, 9, 0, 1);
    }

    private static void drawnWrongly() {
        ToadWall x = Check.wall(0);
        Check.due("22: no ages", x.drawn(0, 100, -1), ToadWall.BAD);
        Check.due("22: 31 ages", x.drawn(0, 310100, -1), ToadWall.BAD);
        Check.due("22: no centuries", x.drawn(0, 10000, -1), ToadWall.BAD);
        Check.due("22: 61 centuries", x.drawn(0, 16100, -1), ToadWall.BAD);
        Check.due("22: 60 centuries", x.drawn(0, 16000, -1), 0);
        Check.due("22: ZEAL 13", x.drawn(0, 10113, -1), ToadWall.BAD);
        Check.due("22: ZEAL 99", x.drawn(0, 10199, -1), ToadWall.BAD);
        Check.due("22: below 0", x.drawn(0, -10101, -1), ToadWall.BAD);
        Check.due("22: block -2", x.drawn(0, 10101, -2), ToadWall.BAD);
        Check.due("22: block 1", x.drawn(0, 10101, 1), ToadWall.BAD);
        Check.due("22: no blocks", new ToadWall().drawn(0, 306012, -1), 0);
    }
}
