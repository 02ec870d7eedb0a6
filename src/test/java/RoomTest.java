import com.sun.management.ThreadMXBean;
import java.lang.management.ManagementFactory;

/** That calls make no objects, and that a new object is small: all calls of a run live in one room. */
public final class RoomTest {
    private static final ThreadMXBean THREADS = (ThreadMXBean) ManagementFactory.getThreadMXBean();
    private static final int TIMES = 200;
    private static long sum = 0;

    public static void main(String[] args) {
        PlatformsLeave x = new PlatformsLeave();
        everyCall(x);
        long before = made();
        for (int i = 0; i < TIMES; i++) everyCall(x);
        long bytes = (made() - before) / TIMES;
        Due.is("bytes made by every call once, " + bytes, bytes < 64 ? 0 : 1, 0);
        before = made();
        for (int i = 0; i < TIMES; i++) sum += new PlatformsLeave().count(0);
        bytes = (made() - before) / TIMES;
        Due.is("bytes of a new object, " + bytes, bytes < 8000 ? 0 : 1, 0);
        Due.is("what was answered", sum == 0 ? 1 : 0, 0);
        Due.end();
    }

    private static long made() {
        return THREADS.getThreadAllocatedBytes(Thread.currentThread().getId());
    }

    private static void everyCall(PlatformsLeave x) {
        sum += x.wipe() + x.write('n') + x.fault() + x.lay();
        x.wipe();
        String text = "t3;t7;p2,5,1,0;p3,6,0,2;a4;";
        for (int i = 0; i < text.length(); i++) sum += x.write(text.charAt(i));
        sum += x.lay() + x.platform(0, 0) + x.train(0) + x.cell(0, 0);
        sum += x.keep() + x.start(0, 3) + x.hold(1) + x.pass(5) + x.undo() + x.undo() + x.undo();
        sum += x.where(0, 60, 2) + x.first(0, 0) + x.hang() + x.trip(0, 1, 0) + x.best(0, 0, 0) + x.places(0);
        sum += x.came(0, 9, true) + x.fits(0) + x.from(0, 0, 9, 1) + x.clocks(0, 1, 0) + x.forget();
        sum += x.floods(0, 0, 6, 5, 0) + x.day(77, 0) + x.day(77, 1) + x.back();
        for (int what = 0; what < 9; what++) sum += x.count(what);
    }
}
