import com.sun.management.ThreadMXBean;
import java.lang.management.ManagementFactory;

/** Calls make no objects: all rows are made with the object, and it is small. */
public final class RoomTest {
    public static void main(String[] args) {
        ThreadMXBean bean = (ThreadMXBean) ManagementFactory.getThreadMXBean();
        long id = Thread.currentThread().getId();
        LeastInBounds x = AllCalls.fullObject();
        AllCalls.askAll(x);
        long before = bean.getThreadAllocatedBytes(id);
        for (int k = 0; k < 200; k++) {
            AllCalls.askAll(x);
        }
        long made = bean.getThreadAllocatedBytes(id) - before;
        Due.isTrue("8000 calls made " + made + " bytes", made < 8000);
        before = bean.getThreadAllocatedBytes(id);
        for (int k = 0; k < 100; k++) {
            x = new LeastInBounds();
        }
        made = (bean.getThreadAllocatedBytes(id) - before) / 100;
        Due.isTrue("a new object is " + made + " bytes", made < 12000);
        Due.end();
    }
}
