/** Promises 1 to 8: blocks, thoughts. */
public final class BlocksTest {
    public static void main(String[] args) {
        aNewObject();
        block();
        blocks();
        blocksFromBelow0();
        blocksThatEnd();
        mend();
        mendWrongly();
        of();
        feed();
        lawFaults();
        lawDepth();
        lawKept();
        lawWorth();
        goes();
        goesOverAndOver();
        Check.end("BlocksTest");
    }

    private static void aNewObject() {
        ToadWall x = new ToadWall();
        for (int what = 0; what <= 5; what++) Check.due("1: count(" + what + ")", x.count(what), 0);
        for (int t = 0; t < 16; t++) {
            Check.due("1: LEADS of " + t, x.of(t, 5), t == 15 ? 15 : t + 1);
            Check.due("1: WORD of " + t, x.of(t, 6), t % 10);
        }
        Check.due("1: CENTURY", x.of(0, 7), 0);
        for (int what = 0; what <= 4; what++) Check.due("1: led(" + what + ")", x.led(what), 0);
        for (int shelf = 0; shelf < 6; shelf++) Check.due("1: shelf " + shelf, x.taken(shelf, 0), -11);
        Check.due("1: undo()", x.undo(), ToadWall.STATE);
        Check.due("1: redo()", x.redo(), ToadWall.STATE);
        Check.due("1: back()", x.back(), ToadWall.STATE);
        ToadWall other = new ToadWall();
        x.block(4);
        Check.due("1: objects have nothing in common", other.count(0), 0);
    }

    private static void block() {
        ToadWall x = new ToadWall();
        Check.due("2: block(-1)", x.block(-1), ToadWall.BAD);
        Check.due("2: block(10)", x.block(10), ToadWall.BAD);
        for (int b = 0; b < 10; b++) Check.due("2: block(" + b + ")", x.block(b), b);
        Check.due("2: block(3)", x.block(3), ToadWall.FULL);
        Check.due("2: BAD comes ahead of FULL", x.block(10), ToadWall.BAD);
        Check.due("2: count(0)", x.count(0), 10);
        for (int b = 0; b < 10; b++) {
            int[] first = {b, 0, 3, 0, 0};
            for (int what = 0; what < 5; what++) Check.due("2: of(" + b + ", " + what + ")", x.of(b, what), first[what]);
        }
        Check.due("2: a block is no change", x.count(3), 0);
    }

    private static void blocks() {
        ToadWall x = Check.row(new ToadWall(), 2, 0, 99, 7, 15, 9, 0, 0, 0, 9, 4, 1);
        Check.due("3: blocks(2, 1, 2)", x.blocks(2, 1, 2), 2);
        Check.due("3: bed of 0", x.of(0, 0), 7);
        Check.due("3: at of 0", x.of(0, 1), 15);
        Check.due("3: lives of 0", x.of(0, 2), 9);
        Check.due("3: lives of 1", x.of(1, 2), 0);
        Check.due("3: blocks(2, 7, 1)", x.blocks(2, 7, 1), 1);
        Check.due("3: bed of 2", x.of(2, 0), 9);
        Check.due("3: open of 2", x.of(2, 3), 0);
        Check.due("3: dead of 2", x.of(2, 4), 0);
        Check.due("3: none is a change", x.count(3), 0);
        Check.due("3: blocks(-1, 0, 1)", x.blocks(-1, 0, 1), ToadWall.BAD);
        Check.due("3: blocks(6, 0, 1)", x.blocks(6, 0, 1), ToadWall.BAD);
        Check.due("3: blocks(2, 1, 0)", x.blocks(2, 1, 0), ToadWall.BAD);
        Check.due("3: blocks(2, 1, 11)", x.blocks(2, 1, 11), ToadWall.BAD);
        Check.due("3: BAD comes ahead of -12", x.row(3, 2, 9) * x.blocks(3, 0, 0), ToadWall.BAD);
        Check.due("3: a row of ints", x.blocks(3, 0, 1), -12);
        x.body(0);
        x.keep(4, 0);
        Check.due("3: a toad", x.blocks(4, 0, 1), -12);
        Check.due("3: a shelf that holds nothing", x.blocks(5, 0, 3), 0);
        Check.due("3: still three", x.count(0), 3);
    }

    // No range is told for the place: where it is below 0 nothing is there, and none comes.
    private static void blocksFromBelow0() {
        int[] below = {-1, -2, -3, -30, Integer.MIN_VALUE};
        for (int place : below) {
            ToadWall x = Check.row(new ToadWall(), 2, 0, 1, 2, 3, 4, 5, 6);
            Check.due("3: a new object, from place " + place, new ToadWall().blocks(0, place, 1), 0);
            Check.due("3: a shelf that holds nothing, from place " + place, x.blocks(0, place, 10), 0);
            Check.due("3: a row of bytes, from place " + place, x.blocks(2, place, 10), 0);
            x.row(3, 1, 9);
            Check.due("3: a row of shorts, from place " + place, x.blocks(3, place, 1), -12);
            x.body(2);
            x.keep(4, 0);
            Check.due("3: a toad, from place " + place, x.blocks(4, place, 1), -12);
            Check.due("3: no such shelf, from place " + place, x.blocks(6, place, 1), ToadWall.BAD);
            Check.due("3: n 0, from place " + place, x.blocks(2, place, 0), ToadWall.BAD);
            Check.due("3: n 11, from place " + place, x.blocks(0, place, 11), ToadWall.BAD);
            Check.due("3: none came from place " + place, x.count(0), 0);
        }
    }

    private static void blocksThatEnd() {
        ToadWall x = Check.row(new ToadWall(), 0, 0, 1, 1, 1, 2, 2, 2, 3, 3);
        Check.due("3: it ends within a three", x.blocks(0, 0, 10), 2);
        Check.due("3: it ends at the end", x.blocks(0, 8, 1), 0);
        Check.due("3: it ends past the end", x.blocks(0, Integer.MAX_VALUE, 10), 0);
        Check.due("3: not the last two", x.blocks(0, 6, 1), 0);
        Check.due("3: the last three", x.blocks(0, 5, 2), 1);
        Check.due("3: bed, at, lives from place 5", x.of(2, 0) * 100 + x.of(2, 1) * 10 + x.of(2, 2), 233);
        long[][] notSo = {{10, 0, 0}, {-1, 0, 0}, {0, 16, 0}, {0, -1, 0}, {0, 0, 10}, {0, 0, -1}};
        for (long[] three : notSo) {
            ToadWall y = Check.row(new ToadWall(), 0, 0, 5, 5, 5, three[0], three[1], three[2], 5, 5, 5);
            Check.due("3: one is not so", y.blocks(0, 0, 3), 1);
            Check.due("3: the one ahead came", y.count(0), 1);
        }
        ToadWall z = Check.wall(0, 0, 0, 0, 0, 0, 0, 0);
        z.row(0, 0, 60);
        Check.due("3: until they are FULL", z.blocks(0, 0, 10), 2);
        Check.due("3: none comes", z.blocks(0, 0, 10), 0);
        Check.due("3: ten", z.count(0), 10);
    }

    private static void mend() {
        ToadWall x = Check.wall(4, 6);
        int[] most = {9, 15, 9, 1, 1, 15, 9};
        int[] was = {6, 0, 3, 0, 0, 2, 1};
        for (int what = 0; what <= 6; what++) {
            Check.due("4: mend(1, " + what + ", most)", x.mend(1, what, most[what]), was[what]);
            Check.due("4: of(1, " + what + ")", x.of(1, what), most[what]);
            Check.due("4: mend(1, " + what + ", 0)", x.mend(1, what, 0), most[what]);
            Check.due("4: of(1, " + what + ")", x.of(1, what), 0);
        }
        Check.due("4: the other one", x.of(0, 0) * 100 + x.of(0, 1) * 10 + x.of(0, 2), 403);
        Check.due("4: mend(0, 7, 99)", x.mend(0, 7, 99), 0);
        Check.due("4: mend(0, 7, 5)", x.mend(0, 7, 5), 99);
        Check.due("4: of(0, 7)", x.of(0, 7), 5);
        Check.due("4: mend(15, 5, 0)", x.mend(15, 5, 0), 15);
        Check.due("4: mend(15, 6, 9)", x.mend(15, 6, 9), 5);
        Check.due("4: the law goes by what is told", x.mend(0, 0, 9) * 10 + x.goes(0), 43);
        Check.due("4: no deed is led", x.mend(0, 3, 1) + x.led(1), 0);
    }

    private static void mendWrongly() {
        ToadWall x = Check.wall(4, 6);
        int[] most = {9, 15, 9, 1, 1, 15, 9, 99};
        for (int what = 0; what <= 7; what++) {
            Check.due("4: too much of " + what, x.mend(0, what, most[what] + 1), ToadWall.BAD);
            Check.due("4: below 0 of " + what, x.mend(0, what, -1), ToadWall.BAD);
            Check.due("4: number -1 of " + what, x.mend(-1, what, 0), ToadWall.BAD);
            int past = what < 5 ? 2 : what < 7 ? 16 : 1;
            Check.due("4: number " + past + " of " + what, x.mend(past, what, 0), ToadWall.BAD);
            Check.due("5: number -1 of " + what, x.of(-1, what), ToadWall.BAD);
            Check.due("5: number " + past + " of " + what, x.of(past, what), ToadWall.BAD);
        }
        Check.due("4: mend(0, 8, 0)", x.mend(0, 8, 0), ToadWall.BAD);
        Check.due("4: mend(0, -1, 0)", x.mend(0, -1, 0), ToadWall.BAD);
        Check.due("4: nothing changed", x.count(3), 0);
    }

    private static void of() {
        ToadWall x = Check.wall(8);
        x.open(0);
        x.hours(2);
        x.century();
        int[] want = {8, 0, 1, 1, 0, 1, 0, 1};
        for (int what = 0; what <= 7; what++) Check.due("5: of(0, " + what + ")", x.of(0, what), want[what]);
        Check.due("5: of(0, 8)", x.of(0, 8), ToadWall.BAD);
        Check.due("5: of(0, -1)", x.of(0, -1), ToadWall.BAD);
        Check.due("5: of(15, 5)", x.of(15, 5), 15);
        Check.due("5: of(15, 6)", x.of(15, 6), 5);
    }

    private static void feed() {
        ToadWall x = new ToadWall();
        Check.due("6: feed(-1)", x.feed(-1), ToadWall.BAD);
        Check.due("6: feed(256)", x.feed(256), ToadWall.BAD);
        Check.due("6: feed(0)", x.feed(0), 1);
        Check.due("6: feed(255)", x.feed(255), 2);
        for (int i = 3; i <= 120; i++) Check.due("6: feed", x.feed('1'), i);
        Check.due("6: FULL", x.feed('1'), ToadWall.FULL);
        Check.due("6: BAD comes ahead of FULL", x.feed(256), ToadWall.BAD);
        Check.due("6: count(2)", x.count(2), 120);
        Check.due("6: the byte 0 is the fault", x.law(), -100);
        Check.due("6: empty then", x.feed('1'), 1);
    }

    private static void faultDue(String text, int place) {
        ToadWall x = new ToadWall();
        Check.due("7: " + text, Check.law(x, text), place < 0 ? 1 : -100 - place);
        Check.due("7: the tape is empty then", x.count(2), 0);
    }

    private static void lawFaults() {
        String[] fine = {"1", "0000", "9999", "b", "a+w*n-o/y%2", "1?2", "1?2;3?4;5", "(1)", "!1", "-1", "1--1", "!-!-1", "1<2&3=4|5>6",
            "(1<2)<3", "1<(2<3)", "-(1)", "!(b|a)&w", "1-1-1", "12;34", "b?a;w?n;o?y"};
        for (String text : fine) faultDue(text, -1);
        Object[][] faults = {{"", 0}, {"1+", 2}, {"(1", 2}, {"1;", 2}, {"1?", 2}, {"!", 1}, {";1", 0}, {"?1", 0}, {"12345", 4}, {"1?2?3", 3},
            {"1<2<3", 3}, {"1<2=3", 3}, {"(1<2>3)", 4}, {"1<2&3<4<5", 7}, {"(1?2)", 2}, {"(1;2)", 2}, {"1)", 1}, {"()", 1}, {"b1", 1}, {"1b", 1},
            {"(1)2", 3}, {"(1)(2)", 3}, {"x", 0}, {"B", 0}, {" 1", 0}, {"1 ", 1}, {"1+*2", 2}, {"1!", 1}, {"1+!", 3}, {"+1", 0}, {"1;;2", 2},
            {"1||2", 2}, {"1?;2", 2}, {"((1)", 4}, {"1<", 2}, {"1<=2", 2}, {"bb", 1}, {"1\u00ff", 1}, {"1?2;3?4?5", 7}};
        for (Object[] f : faults) faultDue((String) f[0], (Integer) f[1]);
        StringBuilder s = new StringBuilder("1");
        while (s.length() < 119) s.append("+1");
        faultDue(s.toString(), -1);
        faultDue(s + "+", 120);
        faultDue(s + "1", -1);
    }

    private static void lawDepth() {
        faultDue("((((((1))))))", -1);
        faultDue("(((((((1)))))))", 6);
        faultDue("------1", -1);
        faultDue("-------1", 6);
        faultDue("!!!!!!b", -1);
        faultDue("!!!!!!!b", 6);
        faultDue("!-(!-(1))", -1);
        faultDue("!-(!-((1)))", 6);
        faultDue("------1------1", -1);
        faultDue("------1-------1", -1);
        faultDue("------1--------1", 14);
        faultDue("(((((1+-1)))))", -1);
        faultDue("(((((1+--1)))))", 8);
        faultDue("-1-(-1)-((((((1))))))", -1);
        faultDue("(((((-1*-1-!1)))))", -1);
        faultDue("(((((!(1", 6);
        faultDue("(((((!1+(1", 10);
        faultDue("((((((1))))))?((((((1))))));((((((1))))))", -1);
        faultDue("1?(((((((1", 8);
        faultDue("1;-------1", 8);
    }

    private static void lawKept() {
        ToadWall x = Check.wall(9);
        Check.due("7: a text with a fault", Check.law(x, "7+"), -102);
        Check.due("7: is no law", x.goes(0), 3);
        Check.due("7: a text", Check.law(x, "7"), 1);
        Check.due("7: is the law", x.goes(0), 7);
        Check.due("7: another one with a fault", Check.law(x, "b?5;n$"), -105);
        Check.due("7: the law stays", x.goes(0), 7);
        Check.due("7: an empty tape", x.law(), -100);
        Check.due("7: the law stays", x.goes(0), 7);
        Check.due("7: another law", Check.law(x, "2"), 1);
        Check.due("7: is the law then", x.goes(0), 2);
        x.feed('4');
        Check.due("7: what is on the tape is no law yet", x.goes(0), 2);
        Check.due("7: it has one", x.count(2), 1);
        Check.due("7: it comes", x.law() * 10 + x.goes(0), 14);
    }

    private static void worthDue(String text, int want) {
        ToadWall x = Check.wall(0, 0, 5, 9);
        x.mend(2, 1, 12);
        x.mend(12, 6, 8);
        x.mend(0, 3, 1);
        x.mend(1, 3, 1);
        x.mend(3, 3, 1);
        x.mend(0, 7, 40);
        Check.due("7: " + text + " is a law", Check.law(x, text), 1);
        Check.due("8: " + text, x.goes(2), want);
    }

    /** Of block 2: b 5, a 12, w 8, n 2, o 3, y 40. */
    private static void lawWorth() {
        Object[][] worths = {{"b", 5}, {"a-10", 2}, {"w", 8}, {"n", 2}, {"o", 3}, {"y-39", 1}, {"y", 9}, {"-b", 0}, {"1000", 9}, {"0", 0},
            {"1+2*3", 7}, {"(1+2)*3", 9}, {"8-3-2", 3}, {"8/2/2", 2}, {"7-9%5", 3}, {"9%5*2", 8}, {"-7/2+9", 6}, {"-7%2+2", 1}, {"5/0", 0},
            {"5%0", 0}, {"5/0+2", 2}, {"!0", 1}, {"!7", 0}, {"!!7", 1}, {"--7", 7}, {"-!0+3", 2}, {"!-1", 0}, {"2<3", 1}, {"3<3", 0}, {"3=3", 1},
            {"3=2", 0}, {"3>2", 1}, {"2>2", 0}, {"1+1=2", 1}, {"0|0", 0}, {"0|5", 1}, {"5|0", 1}, {"4&5", 1}, {"4&0", 0}, {"0&4", 0}, {"1|1&0", 1},
            {"(1|1)&0", 0}, {"2&3<4", 1}, {"1<0|3", 1}, {"0?7;4", 4}, {"2?7;4", 7}, {"0-1?7;4", 7}, {"0?7", 0}, {"0?7;0?8", 0}, {"0?7;b?6;5", 6},
            {"0;7", 0}, {"3;7", 3}, {"0?1;0;7", 0}, {"(b+3)*(n-1)", 8}, {"!b+!(!a)", 1}, {"0012", 9}, {"0002", 2}, {"2-2?9;1", 1}, {"-(1)", 0}};
        for (Object[] w : worths) worthDue((String) w[0], (Integer) w[1]);
        int wraps = 9999 * 9999 * 9999;
        worthDue("9999*9999*9999<0", wraps < 0 ? 1 : 0);
        worthDue("9999*9999*9999%7+7", Math.min(9, wraps % 7 + 7));
        worthDue("9999*9999*22-9999*9999*22+4", 4);
        // -2147483648 by -1 wraps to itself, and its remainder is 0.
        String least = "(0-8192*8192*32)";
        worthDue(least + "<0", 1);
        worthDue(least + "/-1<0", 1);
        worthDue(least + "%-1+6", 6);
        worthDue("-" + least + "<0", 1);
    }

    private static void goes() {
        ToadWall x = Check.wall(0, 3, 4, 7, 8, 9);
        int[] want = {1, 1, 2, 2, 3, 3};
        for (int b = 0; b < 6; b++) Check.due("8: without a text, goes(" + b + ")", x.goes(b), want[b]);
        Check.due("8: goes(6)", x.goes(6), ToadWall.BAD);
        Check.due("8: goes(-1)", x.goes(-1), ToadWall.BAD);
        x.open(5);
        Check.due("8: he is OPEN", x.goes(5), 3);
        Check.law(x, "n+o");
        Check.due("8: by his number, and one is OPEN", x.goes(4), 5);
        x.open(0);
        Check.due("8: two are OPEN", x.goes(4), 6);
        x.mend(0, 3, 0);
        Check.due("8: one again", x.goes(4), 5);
        Check.law(x, "y");
        Check.due("8: CENTURY 0", x.goes(1), 0);
        x.century();
        x.century();
        Check.due("8: CENTURY 2", x.goes(1), 2);
        Check.law(x, "w");
        x.mend(1, 1, 7);
        Check.due("8: WORD of 7", x.goes(1), 7);
        x.mend(7, 6, 3);
        Check.due("8: its WORD mended", x.goes(1), 3);
        x.mend(1, 0, 9);
        Check.due("8: goes changes nothing", x.of(1, 1), 7);
    }

    /** One law, asked again and again while what it looks at changes: answers that are kept must not be mixed up. */
    private static void goesOverAndOver() {
        String names = "bawnoy";
        for (int one = 0; one < 6; one++) {
            for (int other = 0; other < 6; other++) {
                ToadWall x = Check.wall(0, 0, 0, 0, 0, 0, 0, 0, 0, 0);
                String text = "(" + names.charAt(one) + "*3+" + names.charAt(other) + ")%10";
                Check.law(x, text);
                for (int turn = 0; turn < 60; turn++) {
                    int b = turn * 7 % 10;
                    x.mend(b, 0, turn * 3 % 10);
                    x.mend(b, 1, turn * 5 % 16);
                    x.mend(turn * 5 % 16, 6, turn / 2 % 10);
                    x.mend((turn + 3) % 10, 3, turn / 3 % 2);
                    x.mend(0, 7, turn * 13 % 100);
                    int[] now = {x.of(b, 0), x.of(b, 1), x.of(x.of(b, 1), 6), b, x.count(1), x.of(0, 7)};
                    Check.due("8: " + text + " at turn " + turn, x.goes(b), (now[one] * 3 + now[other]) % 10);
                }
            }
        }
    }
}
