import com.sun.management.ThreadMXBean;
import java.lang.management.ManagementFactory;

/** Rule 12 of LANGUAGE.md: all rows are made with the object; its calls, even the dearest, make next to nothing. */
public final class RoomTest {
    private static final int CALLS = 400;
    private static final ThreadMXBean THREADS = (ThreadMXBean) ManagementFactory.getThreadMXBean();
    // what calls answer, so that none of them can be left out
    private static long answers = 0;

    private interface Call {
        long on(SpriteAtlas atlas, int number);
    }

    private RoomTest() {
    }

    public static void main(String[] args) {
        room("making an object", 40000, (a, n) -> new SpriteAtlas().pages());
        calls("append, clearText, faultPosition and read", RoomTest::readText);
        calls("draw and drop", (a, n) -> a.drop(a.draw(n, 1) - 1));
        calls("setPixel", (a, n) -> a.setPixel(n % 20, 0, 0, n % 10));
        calls("setMatching", (a, n) -> a.setMatching(n % 4));
        calls("setMargins", (a, n) -> a.setMargins(n % 4, n % 3, n % 2));
        calls("pack", (a, n) -> a.pack());
        calls("insert", (a, n) -> a.insert(n % 20));
        calls("unplace", (a, n) -> a.unplace(n % 20));
        calls("undo", (a, n) -> a.undo() + a.setGroup(0, n % 4));
        calls("recordOf", (a, n) -> a.recordOf(n % 20));
        calls("pixel", (a, n) -> a.pixel(0, n % 32, n / 32));
        calls("freeX", (a, n) -> a.freeX(0, n % 20));
        calls("bestMethod", (a, n) -> a.bestMethod());
        calls("smallestPage", (a, n) -> a.smallestPage());
        calls("print and printed", (a, n) -> a.print(n % 20) + a.printed(n % 40));
        calls("keep and restore", (a, n) -> a.keep(n % 2) + a.restore(n % 2));
        calls("checksum", (a, n) -> a.checksum());
        Check.holds("the calls were made", answers != 0);
        Check.finish();
    }

    private static long readText(SpriteAtlas a, int number) {
        return a.append('1') + a.append(';') + a.faultPosition() + a.read() + a.clearText() + a.drop(a.sprites() - 1);
    }

    /** The smallest object takes 16 bytes; fewer a call are what print() needs for its row once. */
    private static void calls(String name, Call call) {
        room(name, 15, call);
    }

    private static void room(String name, int most, Call call) {
        SpriteAtlas a = new SpriteAtlas();
        a.setPageSize(32, 32);
        a.setMargins(1, 1, 1);
        a.setRotation(true);
        a.draw(1, 8);
        a.draw(2, 8);
        a.draw(3, 4);
        a.pack();
        long before = THREADS.getThreadAllocatedBytes(Thread.currentThread().getId());
        for (int n = 0; n < CALLS; n++) {
            answers += call.on(a, n);
        }
        long bytes = THREADS.getThreadAllocatedBytes(Thread.currentThread().getId()) - before;
        Check.holds(name + ": " + bytes / CALLS + " bytes a call", bytes / CALLS <= most);
    }
}
