import com.sun.management.ThreadMXBean;
import java.lang.management.ManagementFactory;

/** No call makes objects, and the dearest calls come to an end soon: all calls of a run live in one room. */
public final class RoomTest {
    private static final long OBJECT_MOST = 60000, CALLS_MOST = 4096;

    public static void main(String[] args) {
        ThreadMXBean beans = (ThreadMXBean) ManagementFactory.getThreadMXBean();
        calls(dearWall(), 1);
        long before = beans.getCurrentThreadAllocatedBytes();
        ToadWall x = dearWall();
        long made = beans.getCurrentThreadAllocatedBytes();
        calls(x, 8);
        long after = beans.getCurrentThreadAllocatedBytes();
        Check.holds("a new object takes " + (made - before) + " bytes", made - before <= OBJECT_MOST);
        Check.holds("its calls take " + (after - made) + " bytes", after - made <= CALLS_MOST);
        Check.end("RoomTest");
    }

    /** Ten blocks and a law of 117 bytes that looks at all that it can. */
    private static ToadWall dearWall() {
        ToadWall x = new ToadWall();
        for (int b = 0; b < 10; b++) x.block(b);
        tellLaw(x);
        x.mend(15, 5, 0);
        for (int k = 0; k < 8; k++) x.body(k);
        return x;
    }

    private static void tellLaw(ToadWall x) {
        for (int i = 0; i < 19; i++) {
            x.feed("bawnoy".charAt(i % 6));
            x.feed(i % 2 == 0 ? '+' : '*');
            x.feed('(');
            x.feed('1' + i % 9);
            x.feed(')');
            x.feed('-');
        }
        x.feed('0');
        x.feed('%');
        x.feed('7');
        if (x.law() != 1) Check.holds("the dear law is a law", false);
    }

    private static void calls(ToadWall x, int times) {
        for (int i = 0; i < times; i++) {
            x.later(60, i, 0);
            x.wall(60, 1);
            x.when(i, 5);
            x.meet(i == 1 ? 12 : 10 + i);
            x.net(i, 2);
            x.fewest(1023, 0);
            x.openings(4, 3);
            x.chance(-1, 0);
            x.row(0, 0, 60);
            x.judge(0, i);
            x.fits(0, i, 0);
            x.changed(i, 16 * 40 + 3, 1);
            x.byTurns(4, 1);
            x.drawn(i, 306012, -1);
            x.century();
            x.open(i);
            x.hours(1);
            x.image();
            x.back();
            x.mend(i, 5, 15);
            x.undo();
            x.redo();
            x.act(7, 3, i);
            x.keep(1, 7);
            x.shift(0, 0, 0, 1, 59);
            x.taken(1, 1);
            tellLaw(x);
        }
    }
}
