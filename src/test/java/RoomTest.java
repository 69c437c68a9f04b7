import com.sun.management.ThreadMXBean;
import java.lang.management.ManagementFactory;

/** All calls of one run share one room: a call makes nothing, and a new object makes little. */
public final class RoomTest {
    private static final ThreadMXBean THREADS = (ThreadMXBean) ManagementFactory.getThreadMXBean();

    public static void main(String[] args) {
        allCalls(new TouchPanel());
        long before = allocated();
        TouchPanel[] many = new TouchPanel[100];
        for (int i = 0; i < many.length; i++) {
            many[i] = new TouchPanel();
        }
        long each = (allocated() - before) / many.length;
        Due.holds("a new object is small: " + each + " bytes", each < 10000);
        before = allocated();
        for (int i = 0; i < many.length; i++) {
            allCalls(many[i]);
        }
        long calls = allocated() - before;
        Due.holds("all calls of 100 objects make nothing: " + calls + " bytes", calls < 2000);
        Due.end();
    }

    private static long allocated() {
        return THREADS.getThreadAllocatedBytes(Thread.currentThread().getId());
    }

    /** 512 calls at most, as the document promises nothing of later ones. */
    private static void allCalls(TouchPanel x) {
        x.panel(8, 8);
        for (int i = 0; i < 28; i++) {
            x.bound(2, i % 15);
            x.set(i % 8, 3, i);
            x.press(i % 7, i % 5, 70);
            x.lose(i % 8);
            x.frame(30);
            x.drift(30, 1 + i);
            x.told(i % 17);
            x.cell(1, 1, 4);
            x.contact(0, 3);
            x.track(0, 1);
            x.named(i);
            x.paired(-1);
            x.rule(3, 2, 0, i % 100);
            x.ghosts(255, 255, i % 17);
            x.digest();
            x.keep(i % 2);
            x.goBack(i % 3);
        }
        x.wipe();
    }
}
