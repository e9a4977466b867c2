/** Promises 23 to 30: in deed. */
public final class DeedsTest {
    public static void main(String[] args) {
        century();
        open();
        hours();
        led();
        image();
        back();
        undo();
        redo();
        fortyChanges();
        fortyUnlikeChanges();
        tenBlocks();
        Check.end("DeedsTest");
    }

    private static void century() {
        ToadWall x = Check.wall(0, 9, 4);
        x.open(2);
        Check.due("23: century()", x.century(), 1);
        Check.due("23: each goes on but who is OPEN", x.of(0, 1) * 100 + x.of(1, 1) * 10 + x.of(2, 1), 130);
        Check.due("23: CENTURY", x.of(0, 7), 1);
        Check.law(x, "y+o");
        Check.due("23: century()", x.century(), 2);
        Check.due("23: by the law of this century", x.of(0, 1), 3);
        x.mend(0, 7, 98);
        x.mend(0, 4, 1);
        Check.due("23: century()", x.century(), 99);
        Check.due("23: who is DEAD, and not OPEN, goes on", x.of(0, 1), 12);
        Check.due("23: 99 stays", x.century(), 99);
        Check.due("23: four are led", x.led(0), 4);
        Check.due("23: no blocks", new ToadWall().century(), 1);
    }

    private static void open() {
        ToadWall x = Check.at(Check.wall(0, 0), 13, 6);
        Check.due("24: open(0)", x.open(0), 3);
        Check.due("24: OPEN", x.of(0, 3), 1);
        Check.due("24: open(0) again", x.open(0), ToadWall.STATE);
        Check.due("24: opened once", x.led(1), 1);
        Check.due("24: open(2)", x.open(2), ToadWall.BAD);
        Check.due("24: open(-1)", x.open(-1), ToadWall.BAD);
        x.mend(6, 6, 8);
        x.mend(1, 4, 1);
        Check.due("24: by his WORD now, if he is DEAD, too", x.open(1), 8);
        Check.due("24: it is no change", x.count(3), 4);
        x.mend(1, 3, 0);
        Check.due("24: opened again", x.open(1), 8);
    }

    private static void hours() {
        ToadWall x = Check.wall(0, 0, 0, 0, 0);
        x.mend(1, 2, 5);
        x.mend(2, 2, 0);
        x.mend(4, 4, 1);
        for (int b = 0; b < 3; b++) x.open(b);
        x.open(4);
        Check.due("25: hours(0)", x.hours(0), ToadWall.BAD);
        Check.due("25: hours(100)", x.hours(100), ToadWall.BAD);
        Check.due("25: hours(-1)", x.hours(-1), ToadWall.BAD);
        Check.due("25: who has none is DEAD", x.hours(1), 1);
        Check.due("25: LIVES", x.of(0, 2) * 100 + x.of(1, 2) * 10 + x.of(2, 2), 240);
        Check.due("25: DEAD", x.of(0, 4) * 100 + x.of(1, 4) * 10 + x.of(2, 4), 1);
        Check.due("25: one more", x.hours(2), 1);
        Check.due("25: who is not OPEN lives on", x.of(3, 2), 3);
        Check.due("25: who was DEAD before has his hours", x.of(4, 2), 3);
        Check.due("25: one more", x.hours(99), 1);
        Check.due("25: not below 0", x.of(1, 2), 0);
        Check.due("25: none more", x.hours(99), 0);
        Check.due("25: three by hours", x.led(4), 3);
        Check.due("25: hours are no change", x.count(3), 3);
    }

    private static void led() {
        ToadWall x = Check.at(Check.wall(0, 0, 0), 3, 13, 9);
        x.open(0);
        x.open(1);
        x.open(2);
        x.century();
        x.hours(3);
        int[] want = {1, 3, 15, 1 << 3 | 1 << 9, 3};
        for (int what = 0; what < 5; what++) Check.due("26: led(" + what + ")", x.led(what), want[what]);
        Check.due("26: led(5)", x.led(5), ToadWall.BAD);
        Check.due("26: led(-1)", x.led(-1), ToadWall.BAD);
    }

    private static void image() {
        ToadWall x = Check.wall(0, 0, 0);
        x.mend(2, 3, 1);
        Check.due("27: opened, not by mend()", x.image(), 0);
        x.open(0);
        Check.due("27: image()", x.image(), 1);
        x.open(1);
        Check.due("27: another one", x.image(), 2);
        x.mend(0, 3, 0);
        x.open(0);
        Check.due("27: opened three times", x.image(), 3);
        x.century();
        Check.due("28: the latest image counts", x.back(), 3);
    }

    private static void back() {
        ToadWall x = Check.at(Check.wall(1, 1, 1), 2, 0, 0);
        Check.due("28: there is none", x.back(), ToadWall.STATE);
        x.open(0);
        x.hours(1);
        x.century();
        Check.due("27: image()", x.image(), 1);
        x.open(1);
        x.hours(9);
        x.century();
        x.mend(2, 0, 7);
        x.mend(4, 5, 9);
        x.mend(4, 6, 7);
        x.block(5);
        x.mend(3, 1, 12);
        x.open(3);
        Check.due("28: back()", x.back(), 1);
        Check.due("28: AT", x.of(0, 1) * 100 + x.of(1, 1) * 10 + x.of(2, 1), 211);
        Check.due("28: LIVES", x.of(0, 2) * 100 + x.of(1, 2) * 10 + x.of(2, 2), 233);
        Check.due("28: OPEN", x.of(0, 3) * 100 + x.of(1, 3) * 10 + x.of(2, 3), 100);
        Check.due("28: DEAD", x.of(0, 4) * 100 + x.of(1, 4) * 10 + x.of(2, 4), 0);
        Check.due("28: CENTURY", x.of(0, 7), 1);
        int[] want = {1, 1, 2, 1 << 2, 0};
        for (int what = 0; what < 5; what++) Check.due("28: led(" + what + ")", x.led(what), want[what]);
        Check.due("28: BED is not of it", x.of(2, 0), 7);
        Check.due("28: LEADS is not of it", x.of(4, 5), 9);
        Check.due("28: WORD is not of it", x.of(4, 6), 7);
        Check.due("28: who came since is as he is", x.of(3, 0) * 10000 + x.of(3, 1) * 100 + x.of(3, 3), 51201);
        Check.due("28: changes may be undone still", x.count(3), 5);
        x.century();
        x.open(2);
        Check.due("28: it is there still", x.back(), 1);
        Check.due("28: AT as before", x.of(2, 1), 1);
    }

    private static void undo() {
        ToadWall x = Check.wall(1, 1);
        Check.due("29: none", x.undo(), ToadWall.STATE);
        x.mend(0, 0, 1);
        Check.due("29: the same number is none", x.undo(), ToadWall.STATE);
        int[] v = {5, 9, 7, 1, 1, 12, 4};
        int[] was = {1, 0, 3, 0, 0, 2, 1};
        for (int what = 0; what < 7; what++) x.mend(1, what, v[what]);
        x.mend(0, 7, 33);
        Check.due("29: count(3)", x.count(3), 8);
        Check.due("29: undo()", x.undo(), 7);
        Check.due("29: CENTURY", x.of(0, 7), 0);
        for (int what = 6; what >= 0; what--) {
            Check.due("29: as it was set", x.of(1, what), v[what]);
            Check.due("29: undo()", x.undo(), what);
            Check.due("29: as it was before", x.of(1, what), was[what]);
        }
        Check.due("29: none", x.undo(), ToadWall.STATE);
        x.mend(0, 1, 5);
        x.century();
        x.century();
        x.open(1);
        x.hours(1);
        Check.due("29: deeds are none", x.count(3), 1);
        Check.due("29: undo()", x.undo(), 0);
        Check.due("29: it is what it was ahead of the change", x.of(0, 1), 0);
        Check.due("29: the other deeds stand", x.of(1, 1) * 10 + x.of(0, 7), 22);
    }

    private static void redo() {
        ToadWall x = Check.wall(1);
        Check.due("30: none", x.redo(), ToadWall.STATE);
        x.mend(0, 0, 2);
        x.mend(0, 0, 3);
        x.mend(0, 0, 4);
        Check.due("30: none", x.redo(), ToadWall.STATE);
        x.undo();
        x.undo();
        Check.due("30: redo()", x.redo(), 1);
        Check.due("30: BED", x.of(0, 0), 3);
        Check.due("30: may be undone", x.count(3), 2);
        x.mend(0, 0, 3);
        x.century();
        x.block(4);
        Check.due("30: no other change came", x.redo(), 0);
        Check.due("30: BED", x.of(0, 0), 4);
        Check.due("30: none", x.redo(), ToadWall.STATE);
        x.undo();
        x.mend(0, 0, 7);
        Check.due("30: another one came", x.redo(), ToadWall.STATE);
        Check.due("30: undo()", x.undo(), 2);
        Check.due("30: BED", x.of(0, 0), 3);
        x.mend(0, 0, 10);
        Check.due("30: what is BAD is none", x.redo(), 0);
        Check.due("30: BED", x.of(0, 0), 7);
        x.undo();
        x.mend(0, 1, 9);
        x.undo();
        x.century();
        Check.due("30: AT by a deed", x.of(0, 1), 2);
        Check.due("30: redo()", x.redo(), 0);
        Check.due("30: AT as it was told", x.of(0, 1), 9);
    }

    private static void fortyUnlikeChanges() {
        ToadWall x = Check.wall(0, 0, 0);
        int[][] told = new int[45][];
        for (int i = 0; i < 45; i++) {
            int what = i % 7, number = i % 3;
            int v = (x.of(number, what) + 1) % (what == 3 || what == 4 ? 2 : 10);
            told[i] = new int[] {number, what, x.of(number, what), v};
            x.mend(number, what, v);
        }
        for (int i = 44; i >= 5; i--) {
            x.undo();
            Check.due("29: as it was ahead of the change " + i, x.of(told[i][0], told[i][1]), told[i][2]);
        }
        Check.due("29: none", x.undo(), ToadWall.STATE);
        for (int i = 5; i < 45; i++) {
            x.redo();
            Check.due("30: as it was behind the change " + i, x.of(told[i][0], told[i][1]), told[i][3]);
        }
    }

    private static void tenBlocks() {
        ToadWall x = Check.wall(0, 0, 0, 0, 0, 0, 0, 0, 0, 9);
        Check.due("23: century()", x.century(), 1);
        Check.due("23: the last goes on", x.of(9, 1), 3);
        Check.due("24: the last", x.open(9), 3);
        Check.due("25: the last", x.hours(3), 1);
        Check.due("27: image()", x.image(), 1);
        for (int b = 0; b < 9; b++) x.open(b);
        x.mend(9, 4, 0);
        x.mend(9, 2, 7);
        Check.due("25: nine", x.hours(5), 9);
        Check.due("28: back()", x.back(), 1);
        Check.due("28: DEAD he was", x.of(9, 4), 1);
        Check.due("28: LIVES he had none", x.of(9, 2), 0);
        Check.due("28: the others are not", x.of(8, 4) * 100 + x.of(8, 2) * 10 + x.of(8, 3), 30);
        Check.due("40: OPEN", x.count(1), 1);
    }

    private static void fortyChanges() {
        ToadWall x = Check.wall(0);
        for (int i = 1; i <= 45; i++) x.mend(0, 7, i);
        Check.due("29: 40 are kept", x.count(3), 40);
        for (int i = 39; i >= 0; i--) Check.due("29: undo()", x.undo(), i);
        Check.due("29: the first five are not", x.of(0, 7), 5);
        Check.due("29: none", x.undo(), ToadWall.STATE);
        for (int i = 39; i >= 0; i--) Check.due("30: redo()", x.redo(), i);
        Check.due("30: all again", x.of(0, 7), 45);
        Check.due("30: none", x.redo(), ToadWall.STATE);
        x.mend(0, 7, 50);
        Check.due("29: 40 still", x.count(3), 40);
        Check.due("29: undo()", x.undo(), 39);
        Check.due("29: CENTURY", x.of(0, 7), 45);
    }
}
